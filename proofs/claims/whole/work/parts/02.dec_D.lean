theorem d_D_init_0 : decode c_D_init 0 = .ok (.aload_n 0, 1) := by decide +kernel
theorem d_D_init_1 : decode c_D_init 1 = .ok (.invokespecial 3, 3) := by decide +kernel
theorem d_D_init_4 : decode c_D_init 4 = .ok (.aload_n 0, 1) := by decide +kernel
theorem d_D_init_5 : decode c_D_init 5 = .ok (.new 9, 3) := by decide +kernel
theorem d_D_init_8 : decode c_D_init 8 = .ok (.dup, 1) := by decide +kernel
theorem d_D_init_9 : decode c_D_init 9 = .ok (.invokespecial 11, 3) := by decide +kernel
theorem d_D_init_12 : decode c_D_init 12 = .ok (.putfield 12, 3) := by decide +kernel
theorem d_D_init_15 : decode c_D_init 15 = .ok (.aload_n 0, 1) := by decide +kernel
theorem d_D_init_16 : decode c_D_init 16 = .ok (.new 9, 3) := by decide +kernel
theorem d_D_init_19 : decode c_D_init 19 = .ok (.dup, 1) := by decide +kernel
theorem d_D_init_20 : decode c_D_init 20 = .ok (.invokespecial 11, 3) := by decide +kernel
theorem d_D_init_23 : decode c_D_init 23 = .ok (.putfield 16, 3) := by decide +kernel
theorem d_D_init_26 : decode c_D_init 26 = .ok (.aload_n 0, 1) := by decide +kernel
theorem d_D_init_27 : decode c_D_init 27 = .ok (.new 19, 3) := by decide +kernel
theorem d_D_init_30 : decode c_D_init 30 = .ok (.dup, 1) := by decide +kernel
theorem d_D_init_31 : decode c_D_init 31 = .ok (.invokespecial 21, 3) := by decide +kernel
theorem d_D_init_34 : decode c_D_init 34 = .ok (.putfield 22, 3) := by decide +kernel
theorem d_D_init_37 : decode c_D_init 37 = .ok (.aload_n 0, 1) := by decide +kernel
theorem d_D_init_38 : decode c_D_init 38 = .ok (.new 26, 3) := by decide +kernel
theorem d_D_init_41 : decode c_D_init 41 = .ok (.dup, 1) := by decide +kernel
theorem d_D_init_42 : decode c_D_init 42 = .ok (.invokespecial 28, 3) := by decide +kernel
theorem d_D_init_45 : decode c_D_init 45 = .ok (.putfield 29, 3) := by decide +kernel
theorem d_D_init_48 : decode c_D_init 48 = .ok (.return_, 1) := by decide +kernel
theorem d_D_keep_0 : decode c_D_keep 0 = .ok (.aload_n 0, 1) := by decide +kernel
theorem d_D_keep_1 : decode c_D_keep 1 = .ok (.getfield 16, 3) := by decide +kernel
theorem d_D_keep_4 : decode c_D_keep 4 = .ok (.aload_n 0, 1) := by decide +kernel
theorem d_D_keep_5 : decode c_D_keep 5 = .ok (.getfield 12, 3) := by decide +kernel
theorem d_D_keep_8 : decode c_D_keep 8 = .ok (.invokevirtual 118, 3) := by decide +kernel
theorem d_D_keep_11 : decode c_D_keep 11 = .ok (.return_, 1) := by decide +kernel
theorem d_D_swap_0 : decode c_D_swap 0 = .ok (.aload_n 0, 1) := by decide +kernel
theorem d_D_swap_1 : decode c_D_swap 1 = .ok (.getfield 12, 3) := by decide +kernel
theorem d_D_swap_4 : decode c_D_swap 4 = .ok (.astore_n 1, 1) := by decide +kernel
theorem d_D_swap_5 : decode c_D_swap 5 = .ok (.aload_n 0, 1) := by decide +kernel
theorem d_D_swap_6 : decode c_D_swap 6 = .ok (.aload_n 0, 1) := by decide +kernel
theorem d_D_swap_7 : decode c_D_swap 7 = .ok (.getfield 16, 3) := by decide +kernel
theorem d_D_swap_10 : decode c_D_swap 10 = .ok (.putfield 12, 3) := by decide +kernel
theorem d_D_swap_13 : decode c_D_swap 13 = .ok (.aload_n 0, 1) := by decide +kernel
theorem d_D_swap_14 : decode c_D_swap 14 = .ok (.aload_n 1, 1) := by decide +kernel
theorem d_D_swap_15 : decode c_D_swap 15 = .ok (.putfield 16, 3) := by decide +kernel
theorem d_D_swap_18 : decode c_D_swap 18 = .ok (.aload_n 0, 1) := by decide +kernel
theorem d_D_swap_19 : decode c_D_swap 19 = .ok (.invokevirtual 114, 3) := by decide +kernel
theorem d_D_swap_22 : decode c_D_swap 22 = .ok (.ireturn, 1) := by decide +kernel
theorem d_D_digits_0 : decode c_D_digits 0 = .ok (.aload_n 0, 1) := by decide +kernel
theorem d_D_digits_1 : decode c_D_digits 1 = .ok (.getfield 12, 3) := by decide +kernel
theorem d_D_digits_4 : decode c_D_digits 4 = .ok (.aload_n 0, 1) := by decide +kernel
theorem d_D_digits_5 : decode c_D_digits 5 = .ok (.getfield 22, 3) := by decide +kernel
theorem d_D_digits_8 : decode c_D_digits 8 = .ok (.getfield 70, 3) := by decide +kernel
theorem d_D_digits_11 : decode c_D_digits 11 = .ok (.invokevirtual 209, 3) := by decide +kernel
theorem d_D_digits_14 : decode c_D_digits 14 = .ok (.aload_n 0, 1) := by decide +kernel
theorem d_D_digits_15 : decode c_D_digits 15 = .ok (.getfield 12, 3) := by decide +kernel
theorem d_D_digits_18 : decode c_D_digits 18 = .ok (.getfield 212, 3) := by decide +kernel
theorem d_D_digits_21 : decode c_D_digits 21 = .ok (.ireturn, 1) := by decide +kernel
theorem d_D_rooted_0 : decode c_D_rooted 0 = .ok (.aload_n 0, 1) := by decide +kernel
theorem d_D_rooted_1 : decode c_D_rooted 1 = .ok (.getfield 22, 3) := by decide +kernel
theorem d_D_rooted_4 : decode c_D_rooted 4 = .ok (.getfield 70, 3) := by decide +kernel
theorem d_D_rooted_7 : decode c_D_rooted 7 = .ok (.aload_n 0, 1) := by decide +kernel
theorem d_D_rooted_8 : decode c_D_rooted 8 = .ok (.getfield 12, 3) := by decide +kernel
theorem d_D_rooted_11 : decode c_D_rooted 11 = .ok (.getfield 98, 3) := by decide +kernel
theorem d_D_rooted_14 : decode c_D_rooted 14 = .ok (.invokevirtual 101, 3) := by decide +kernel
theorem d_D_rooted_17 : decode c_D_rooted 17 = .ok (.aload_n 0, 1) := by decide +kernel
theorem d_D_rooted_18 : decode c_D_rooted 18 = .ok (.getfield 22, 3) := by decide +kernel
theorem d_D_rooted_21 : decode c_D_rooted 21 = .ok (.invokevirtual 158, 3) := by decide +kernel
theorem d_D_rooted_24 : decode c_D_rooted 24 = .ok (.aload_n 0, 1) := by decide +kernel
theorem d_D_rooted_25 : decode c_D_rooted 25 = .ok (.aload_n 0, 1) := by decide +kernel
theorem d_D_rooted_26 : decode c_D_rooted 26 = .ok (.getfield 22, 3) := by decide +kernel
theorem d_D_rooted_29 : decode c_D_rooted 29 = .ok (.getfield 54, 3) := by decide +kernel
theorem d_D_rooted_32 : decode c_D_rooted 32 = .ok (.aload_n 0, 1) := by decide +kernel
theorem d_D_rooted_33 : decode c_D_rooted 33 = .ok (.getfield 12, 3) := by decide +kernel
theorem d_D_rooted_36 : decode c_D_rooted 36 = .ok (.getfield 92, 3) := by decide +kernel
theorem d_D_rooted_39 : decode c_D_rooted 39 = .ok (.invokevirtual 58, 3) := by decide +kernel
theorem d_D_rooted_42 : decode c_D_rooted 42 = .ok (.ireturn, 1) := by decide +kernel
theorem d_D_retell_0 : decode c_D_retell 0 = .ok (.aload_n 0, 1) := by decide +kernel
theorem d_D_retell_1 : decode c_D_retell 1 = .ok (.getfield 12, 3) := by decide +kernel
theorem d_D_retell_4 : decode c_D_retell 4 = .ok (.aload_n 1, 1) := by decide +kernel
theorem d_D_retell_5 : decode c_D_retell 5 = .ok (.iload_n 2, 1) := by decide +kernel
theorem d_D_retell_6 : decode c_D_retell 6 = .ok (.invokevirtual 154, 3) := by decide +kernel
theorem d_D_retell_9 : decode c_D_retell 9 = .ok (.aload_n 0, 1) := by decide +kernel
theorem d_D_retell_10 : decode c_D_retell 10 = .ok (.invokevirtual 114, 3) := by decide +kernel
theorem d_D_retell_13 : decode c_D_retell 13 = .ok (.ireturn, 1) := by decide +kernel
theorem d_D_compare_0 : decode c_D_compare 0 = .ok (.aload_n 0, 1) := by decide +kernel
theorem d_D_compare_1 : decode c_D_compare 1 = .ok (.getfield 12, 3) := by decide +kernel
theorem d_D_compare_4 : decode c_D_compare 4 = .ok (.getfield 98, 3) := by decide +kernel
theorem d_D_compare_7 : decode c_D_compare 7 = .ok (.aload_n 0, 1) := by decide +kernel
theorem d_D_compare_8 : decode c_D_compare 8 = .ok (.getfield 16, 3) := by decide +kernel
theorem d_D_compare_11 : decode c_D_compare 11 = .ok (.getfield 98, 3) := by decide +kernel
theorem d_D_compare_14 : decode c_D_compare 14 = .ok (.invokevirtual 125, 3) := by decide +kernel
theorem d_D_compare_17 : decode c_D_compare 17 = .ok (.ireturn, 1) := by decide +kernel
theorem d_D_mill_0 : decode c_D_mill 0 = .ok (.iload_n 1, 1) := by decide +kernel
theorem d_D_mill_1 : decode c_D_mill 1 = .ok (.ifCond .lt 8, 3) := by decide +kernel
theorem d_D_mill_4 : decode c_D_mill 4 = .ok (.iload_n 1, 1) := by decide +kernel
theorem d_D_mill_5 : decode c_D_mill 5 = .ok (.iconst 5, 1) := by decide +kernel
theorem d_D_mill_6 : decode c_D_mill 6 = .ok (.if_icmp .lt 13, 3) := by decide +kernel
theorem d_D_mill_9 : decode c_D_mill 9 = .ok (.new 33, 3) := by decide +kernel
theorem d_D_mill_12 : decode c_D_mill 12 = .ok (.dup, 1) := by decide +kernel
theorem d_D_mill_13 : decode c_D_mill 13 = .ok (.ldc 35, 2) := by decide +kernel
theorem d_D_mill_15 : decode c_D_mill 15 = .ok (.invokespecial 37, 3) := by decide +kernel
theorem d_D_mill_18 : decode c_D_mill 18 = .ok (.athrow, 1) := by decide +kernel
theorem d_D_mill_19 : decode c_D_mill 19 = .ok (.iload_n 2, 1) := by decide +kernel
theorem d_D_mill_20 : decode c_D_mill 20 = .ok (.iload_n 3, 1) := by decide +kernel
theorem d_D_mill_21 : decode c_D_mill 21 = .ok (.invokestatic 40, 3) := by decide +kernel
theorem d_D_mill_24 : decode c_D_mill 24 = .ok (.iload_n 2, 1) := by decide +kernel
theorem d_D_mill_25 : decode c_D_mill 25 = .ok (.iload_n 3, 1) := by decide +kernel
theorem d_D_mill_26 : decode c_D_mill 26 = .ok (.invokestatic 44, 3) := by decide +kernel
theorem d_D_mill_29 : decode c_D_mill 29 = .ok (.iload_n 1, 1) := by decide +kernel
theorem d_D_mill_30 : decode c_D_mill 30 = .ok (.iconst 2, 1) := by decide +kernel
theorem d_D_mill_31 : decode c_D_mill 31 = .ok (.if_icmp .ne 15, 3) := by decide +kernel
theorem d_D_mill_34 : decode c_D_mill 34 = .ok (.aload_n 0, 1) := by decide +kernel
theorem d_D_mill_35 : decode c_D_mill 35 = .ok (.getfield 22, 3) := by decide +kernel
theorem d_D_mill_38 : decode c_D_mill 38 = .ok (.iload_n 2, 1) := by decide +kernel
theorem d_D_mill_39 : decode c_D_mill 39 = .ok (.iload_n 3, 1) := by decide +kernel
theorem d_D_mill_40 : decode c_D_mill 40 = .ok (.invokevirtual 47, 3) := by decide +kernel
theorem d_D_mill_43 : decode c_D_mill 43 = .ok (.goto 10, 3) := by decide +kernel
theorem d_D_mill_46 : decode c_D_mill 46 = .ok (.aload_n 0, 1) := by decide +kernel
theorem d_D_mill_47 : decode c_D_mill 47 = .ok (.iload_n 1, 1) := by decide +kernel
theorem d_D_mill_48 : decode c_D_mill 48 = .ok (.iload_n 2, 1) := by decide +kernel
theorem d_D_mill_49 : decode c_D_mill 49 = .ok (.iload_n 3, 1) := by decide +kernel
theorem d_D_mill_50 : decode c_D_mill 50 = .ok (.invokevirtual 50, 3) := by decide +kernel
theorem d_D_mill_53 : decode c_D_mill 53 = .ok (.aload_n 0, 1) := by decide +kernel
theorem d_D_mill_54 : decode c_D_mill 54 = .ok (.aload_n 0, 1) := by decide +kernel
theorem d_D_mill_55 : decode c_D_mill 55 = .ok (.getfield 22, 3) := by decide +kernel
theorem d_D_mill_58 : decode c_D_mill 58 = .ok (.getfield 54, 3) := by decide +kernel
theorem d_D_mill_61 : decode c_D_mill 61 = .ok (.iload_n 3, 1) := by decide +kernel
theorem d_D_mill_62 : decode c_D_mill 62 = .ok (.invokevirtual 58, 3) := by decide +kernel
theorem d_D_mill_65 : decode c_D_mill 65 = .ok (.ireturn, 1) := by decide +kernel
theorem d_D_refuseWrongPlaces_0 : decode c_D_refuseWrongPlaces 0 = .ok (.iload_n 0, 1) := by decide +kernel
theorem d_D_refuseWrongPlaces_1 : decode c_D_refuseWrongPlaces 1 = .ok (.ifCond .lt 10, 3) := by decide +kernel
theorem d_D_refuseWrongPlaces_4 : decode c_D_refuseWrongPlaces 4 = .ok (.iload_n 0, 1) := by decide +kernel
theorem d_D_refuseWrongPlaces_5 : decode c_D_refuseWrongPlaces 5 = .ok (.sipush 6000, 3) := by decide +kernel
theorem d_D_refuseWrongPlaces_8 : decode c_D_refuseWrongPlaces 8 = .ok (.if_icmp .le 13, 3) := by decide +kernel
theorem d_D_refuseWrongPlaces_11 : decode c_D_refuseWrongPlaces 11 = .ok (.new 33, 3) := by decide +kernel
theorem d_D_refuseWrongPlaces_14 : decode c_D_refuseWrongPlaces 14 = .ok (.dup, 1) := by decide +kernel
theorem d_D_refuseWrongPlaces_15 : decode c_D_refuseWrongPlaces 15 = .ok (.ldc 190, 2) := by decide +kernel
theorem d_D_refuseWrongPlaces_17 : decode c_D_refuseWrongPlaces 17 = .ok (.invokespecial 37, 3) := by decide +kernel
theorem d_D_refuseWrongPlaces_20 : decode c_D_refuseWrongPlaces 20 = .ok (.athrow, 1) := by decide +kernel
theorem d_D_refuseWrongPlaces_21 : decode c_D_refuseWrongPlaces 21 = .ok (.iload_n 1, 1) := by decide +kernel
theorem d_D_refuseWrongPlaces_22 : decode c_D_refuseWrongPlaces 22 = .ok (.invokestatic 88, 3) := by decide +kernel
theorem d_D_refuseWrongPlaces_25 : decode c_D_refuseWrongPlaces 25 = .ok (.return_, 1) := by decide +kernel
theorem d_D_refuseWrongBase_0 : decode c_D_refuseWrongBase 0 = .ok (.iload_n 0, 1) := by decide +kernel
theorem d_D_refuseWrongBase_1 : decode c_D_refuseWrongBase 1 = .ok (.iconst 2, 1) := by decide +kernel
theorem d_D_refuseWrongBase_2 : decode c_D_refuseWrongBase 2 = .ok (.if_icmp .lt 9, 3) := by decide +kernel
theorem d_D_refuseWrongBase_5 : decode c_D_refuseWrongBase 5 = .ok (.iload_n 0, 1) := by decide +kernel
theorem d_D_refuseWrongBase_6 : decode c_D_refuseWrongBase 6 = .ok (.bipush 36, 2) := by decide +kernel
theorem d_D_refuseWrongBase_8 : decode c_D_refuseWrongBase 8 = .ok (.if_icmp .le 13, 3) := by decide +kernel
theorem d_D_refuseWrongBase_11 : decode c_D_refuseWrongBase 11 = .ok (.new 33, 3) := by decide +kernel
theorem d_D_refuseWrongBase_14 : decode c_D_refuseWrongBase 14 = .ok (.dup, 1) := by decide +kernel
theorem d_D_refuseWrongBase_15 : decode c_D_refuseWrongBase 15 = .ok (.ldc 188, 2) := by decide +kernel
theorem d_D_refuseWrongBase_17 : decode c_D_refuseWrongBase 17 = .ok (.invokespecial 37, 3) := by decide +kernel
theorem d_D_refuseWrongBase_20 : decode c_D_refuseWrongBase 20 = .ok (.athrow, 1) := by decide +kernel
theorem d_D_refuseWrongBase_21 : decode c_D_refuseWrongBase 21 = .ok (.return_, 1) := by decide +kernel
theorem d_D_refuseTooManyPlaces_0 : decode c_D_refuseTooManyPlaces 0 = .ok (.iload_n 0, 1) := by decide +kernel
theorem d_D_refuseTooManyPlaces_1 : decode c_D_refuseTooManyPlaces 1 = .ok (.iload_n 1, 1) := by decide +kernel
theorem d_D_refuseTooManyPlaces_2 : decode c_D_refuseTooManyPlaces 2 = .ok (.invokestatic 192, 3) := by decide +kernel
theorem d_D_refuseTooManyPlaces_5 : decode c_D_refuseTooManyPlaces 5 = .ok (.imul, 1) := by decide +kernel
theorem d_D_refuseTooManyPlaces_6 : decode c_D_refuseTooManyPlaces 6 = .ok (.sipush 20000, 3) := by decide +kernel
theorem d_D_refuseTooManyPlaces_9 : decode c_D_refuseTooManyPlaces 9 = .ok (.if_icmp .le 13, 3) := by decide +kernel
theorem d_D_refuseTooManyPlaces_12 : decode c_D_refuseTooManyPlaces 12 = .ok (.new 140, 3) := by decide +kernel
theorem d_D_refuseTooManyPlaces_15 : decode c_D_refuseTooManyPlaces 15 = .ok (.dup, 1) := by decide +kernel
theorem d_D_refuseTooManyPlaces_16 : decode c_D_refuseTooManyPlaces 16 = .ok (.ldc 195, 2) := by decide +kernel
theorem d_D_refuseTooManyPlaces_18 : decode c_D_refuseTooManyPlaces 18 = .ok (.invokespecial 144, 3) := by decide +kernel
theorem d_D_refuseTooManyPlaces_21 : decode c_D_refuseTooManyPlaces 21 = .ok (.athrow, 1) := by decide +kernel
theorem d_D_refuseTooManyPlaces_22 : decode c_D_refuseTooManyPlaces 22 = .ok (.return_, 1) := by decide +kernel
theorem d_D_makeConstant_0 : decode c_D_makeConstant 0 = .ok (.iload_n 2, 1) := by decide +kernel
theorem d_D_makeConstant_1 : decode c_D_makeConstant 1 = .ok (.iload_n 3, 1) := by decide +kernel
theorem d_D_makeConstant_2 : decode c_D_makeConstant 2 = .ok (.invokestatic 192, 3) := by decide +kernel
theorem d_D_makeConstant_5 : decode c_D_makeConstant 5 = .ok (.imul, 1) := by decide +kernel
theorem d_D_makeConstant_6 : decode c_D_makeConstant 6 = .ok (.bipush 31, 2) := by decide +kernel
theorem d_D_makeConstant_8 : decode c_D_makeConstant 8 = .ok (.iadd, 1) := by decide +kernel
theorem d_D_makeConstant_9 : decode c_D_makeConstant 9 = .ok (.istore 4, 2) := by decide +kernel
theorem d_D_makeConstant_11 : decode c_D_makeConstant 11 = .ok (.iload 4, 2) := by decide +kernel
theorem d_D_makeConstant_13 : decode c_D_makeConstant 13 = .ok (.bipush 30, 2) := by decide +kernel
theorem d_D_makeConstant_15 : decode c_D_makeConstant 15 = .ok (.iadd, 1) := by decide +kernel
theorem d_D_makeConstant_16 : decode c_D_makeConstant 16 = .ok (.iconst 1, 1) := by decide +kernel
theorem d_D_makeConstant_17 : decode c_D_makeConstant 17 = .ok (.isub, 1) := by decide +kernel
theorem d_D_makeConstant_18 : decode c_D_makeConstant 18 = .ok (.bipush 30, 2) := by decide +kernel
theorem d_D_makeConstant_20 : decode c_D_makeConstant 20 = .ok (.idiv, 1) := by decide +kernel
theorem d_D_makeConstant_21 : decode c_D_makeConstant 21 = .ok (.istore 5, 2) := by decide +kernel
theorem d_D_makeConstant_23 : decode c_D_makeConstant 23 = .ok (.iconst 0, 1) := by decide +kernel
theorem d_D_makeConstant_24 : decode c_D_makeConstant 24 = .ok (.istore 6, 2) := by decide +kernel
theorem d_D_makeConstant_26 : decode c_D_makeConstant 26 = .ok (.iload 5, 2) := by decide +kernel
theorem d_D_makeConstant_28 : decode c_D_makeConstant 28 = .ok (.iconst 2, 1) := by decide +kernel
theorem d_D_makeConstant_29 : decode c_D_makeConstant 29 = .ok (.iadd, 1) := by decide +kernel
theorem d_D_makeConstant_30 : decode c_D_makeConstant 30 = .ok (.istore 7, 2) := by decide +kernel
theorem d_D_makeConstant_32 : decode c_D_makeConstant 32 = .ok (.iload 6, 2) := by decide +kernel
theorem d_D_makeConstant_34 : decode c_D_makeConstant 34 = .ok (.ifCond .ne 91, 3) := by decide +kernel
theorem d_D_makeConstant_37 : decode c_D_makeConstant 37 = .ok (.iload 7, 2) := by decide +kernel
theorem d_D_makeConstant_39 : decode c_D_makeConstant 39 = .ok (.sipush 704, 3) := by decide +kernel
theorem d_D_makeConstant_42 : decode c_D_makeConstant 42 = .ok (.if_icmp .gt 83, 3) := by decide +kernel
theorem d_D_makeConstant_45 : decode c_D_makeConstant 45 = .ok (.aload_n 0, 1) := by decide +kernel
theorem d_D_makeConstant_46 : decode c_D_makeConstant 46 = .ok (.getfield 29, 3) := by decide +kernel
theorem d_D_makeConstant_49 : decode c_D_makeConstant 49 = .ok (.iload_n 1, 1) := by decide +kernel
theorem d_D_makeConstant_50 : decode c_D_makeConstant 50 = .ok (.iload 7, 2) := by decide +kernel
theorem d_D_makeConstant_52 : decode c_D_makeConstant 52 = .ok (.invokevirtual 217, 3) := by decide +kernel
theorem d_D_makeConstant_55 : decode c_D_makeConstant 55 = .ok (.istore 8, 2) := by decide +kernel
theorem d_D_makeConstant_57 : decode c_D_makeConstant 57 = .ok (.aload_n 0, 1) := by decide +kernel
theorem d_D_makeConstant_58 : decode c_D_makeConstant 58 = .ok (.getfield 22, 3) := by decide +kernel
theorem d_D_makeConstant_61 : decode c_D_makeConstant 61 = .ok (.getfield 54, 3) := by decide +kernel
theorem d_D_makeConstant_64 : decode c_D_makeConstant 64 = .ok (.aload_n 0, 1) := by decide +kernel
theorem d_D_makeConstant_65 : decode c_D_makeConstant 65 = .ok (.getfield 29, 3) := by decide +kernel
theorem d_D_makeConstant_68 : decode c_D_makeConstant 68 = .ok (.iload_n 1, 1) := by decide +kernel
theorem d_D_makeConstant_69 : decode c_D_makeConstant 69 = .ok (.invokevirtual 221, 3) := by decide +kernel
theorem d_D_makeConstant_72 : decode c_D_makeConstant 72 = .ok (.iload 8, 2) := by decide +kernel
theorem d_D_makeConstant_74 : decode c_D_makeConstant 74 = .ok (.iconst 1, 1) := by decide +kernel
theorem d_D_makeConstant_75 : decode c_D_makeConstant 75 = .ok (.iadd, 1) := by decide +kernel
theorem d_D_makeConstant_76 : decode c_D_makeConstant 76 = .ok (.invokevirtual 225, 3) := by decide +kernel
theorem d_D_makeConstant_79 : decode c_D_makeConstant 79 = .ok (.aload_n 0, 1) := by decide +kernel
theorem d_D_makeConstant_80 : decode c_D_makeConstant 80 = .ok (.getfield 22, 3) := by decide +kernel
theorem d_D_makeConstant_83 : decode c_D_makeConstant 83 = .ok (.getfield 54, 3) := by decide +kernel
theorem d_D_makeConstant_86 : decode c_D_makeConstant 86 = .ok (.iload_n 3, 1) := by decide +kernel
theorem d_D_makeConstant_87 : decode c_D_makeConstant 87 = .ok (.iload_n 2, 1) := by decide +kernel
theorem d_D_makeConstant_88 : decode c_D_makeConstant 88 = .ok (.invokevirtual 79, 3) := by decide +kernel
theorem d_D_makeConstant_91 : decode c_D_makeConstant 91 = .ok (.aload_n 0, 1) := by decide +kernel
theorem d_D_makeConstant_92 : decode c_D_makeConstant 92 = .ok (.getfield 22, 3) := by decide +kernel
theorem d_D_makeConstant_95 : decode c_D_makeConstant 95 = .ok (.getfield 54, 3) := by decide +kernel
theorem d_D_makeConstant_98 : decode c_D_makeConstant 98 = .ok (.iload 5, 2) := by decide +kernel
theorem d_D_makeConstant_100 : decode c_D_makeConstant 100 = .ok (.iload 8, 2) := by decide +kernel
theorem d_D_makeConstant_102 : decode c_D_makeConstant 102 = .ok (.invokevirtual 229, 3) := by decide +kernel
theorem d_D_makeConstant_105 : decode c_D_makeConstant 105 = .ok (.istore 6, 2) := by decide +kernel
theorem d_D_makeConstant_107 : decode c_D_makeConstant 107 = .ok (.aload_n 0, 1) := by decide +kernel
theorem d_D_makeConstant_108 : decode c_D_makeConstant 108 = .ok (.getfield 22, 3) := by decide +kernel
theorem d_D_makeConstant_111 : decode c_D_makeConstant 111 = .ok (.getfield 54, 3) := by decide +kernel
theorem d_D_makeConstant_114 : decode c_D_makeConstant 114 = .ok (.iload 8, 2) := by decide +kernel
theorem d_D_makeConstant_116 : decode c_D_makeConstant 116 = .ok (.invokevirtual 233, 3) := by decide +kernel
theorem d_D_makeConstant_119 : decode c_D_makeConstant 119 = .ok (.iinc 7 8, 3) := by decide +kernel
theorem d_D_makeConstant_122 : decode c_D_makeConstant 122 = .ok (.goto (-90), 3) := by decide +kernel
theorem d_D_makeConstant_125 : decode c_D_makeConstant 125 = .ok (.return_, 1) := by decide +kernel
theorem d_D_root_0 : decode c_D_root 0 = .ok (.lload_n 1, 1) := by decide +kernel
theorem d_D_root_1 : decode c_D_root 1 = .ok (.lconst 0, 1) := by decide +kernel
theorem d_D_root_2 : decode c_D_root 2 = .ok (.lcmp, 1) := by decide +kernel
theorem d_D_root_3 : decode c_D_root 3 = .ok (.ifCond .ge 13, 3) := by decide +kernel
theorem d_D_root_6 : decode c_D_root 6 = .ok (.new 33, 3) := by decide +kernel
theorem d_D_root_9 : decode c_D_root 9 = .ok (.dup, 1) := by decide +kernel
theorem d_D_root_10 : decode c_D_root 10 = .ok (.ldc 62, 2) := by decide +kernel
theorem d_D_root_12 : decode c_D_root 12 = .ok (.invokespecial 37, 3) := by decide +kernel
theorem d_D_root_15 : decode c_D_root 15 = .ok (.athrow, 1) := by decide +kernel
theorem d_D_root_16 : decode c_D_root 16 = .ok (.iload_n 3, 1) := by decide +kernel
theorem d_D_root_17 : decode c_D_root 17 = .ok (.iload 4, 2) := by decide +kernel
theorem d_D_root_19 : decode c_D_root 19 = .ok (.invokestatic 40, 3) := by decide +kernel
theorem d_D_root_22 : decode c_D_root 22 = .ok (.iload_n 3, 1) := by decide +kernel
theorem d_D_root_23 : decode c_D_root 23 = .ok (.iload 4, 2) := by decide +kernel
theorem d_D_root_25 : decode c_D_root 25 = .ok (.invokestatic 44, 3) := by decide +kernel
theorem d_D_root_28 : decode c_D_root 28 = .ok (.aload_n 0, 1) := by decide +kernel
theorem d_D_root_29 : decode c_D_root 29 = .ok (.getfield 22, 3) := by decide +kernel
theorem d_D_root_32 : decode c_D_root 32 = .ok (.lload_n 1, 1) := by decide +kernel
theorem d_D_root_33 : decode c_D_root 33 = .ok (.iload_n 3, 1) := by decide +kernel
theorem d_D_root_34 : decode c_D_root 34 = .ok (.iload 4, 2) := by decide +kernel
theorem d_D_root_36 : decode c_D_root 36 = .ok (.invokevirtual 64, 3) := by decide +kernel
theorem d_D_root_39 : decode c_D_root 39 = .ok (.aload_n 0, 1) := by decide +kernel
theorem d_D_root_40 : decode c_D_root 40 = .ok (.aload_n 0, 1) := by decide +kernel
theorem d_D_root_41 : decode c_D_root 41 = .ok (.getfield 22, 3) := by decide +kernel
theorem d_D_root_44 : decode c_D_root 44 = .ok (.getfield 54, 3) := by decide +kernel
theorem d_D_root_47 : decode c_D_root 47 = .ok (.iload 4, 2) := by decide +kernel
theorem d_D_root_49 : decode c_D_root 49 = .ok (.invokevirtual 58, 3) := by decide +kernel
theorem d_D_root_52 : decode c_D_root 52 = .ok (.ireturn, 1) := by decide +kernel
theorem d_D_over_0 : decode c_D_over 0 = .ok (.lload_n 1, 1) := by decide +kernel
theorem d_D_over_1 : decode c_D_over 1 = .ok (.lconst 0, 1) := by decide +kernel
theorem d_D_over_2 : decode c_D_over 2 = .ok (.lcmp, 1) := by decide +kernel
theorem d_D_over_3 : decode c_D_over 3 = .ok (.ifCond .lt 9, 3) := by decide +kernel
theorem d_D_over_6 : decode c_D_over 6 = .ok (.lload_n 3, 1) := by decide +kernel
theorem d_D_over_7 : decode c_D_over 7 = .ok (.lconst 1, 1) := by decide +kernel
theorem d_D_over_8 : decode c_D_over 8 = .ok (.lcmp, 1) := by decide +kernel
theorem d_D_over_9 : decode c_D_over 9 = .ok (.ifCond .ge 13, 3) := by decide +kernel
theorem d_D_over_12 : decode c_D_over 12 = .ok (.new 33, 3) := by decide +kernel
theorem d_D_over_15 : decode c_D_over 15 = .ok (.dup, 1) := by decide +kernel
theorem d_D_over_16 : decode c_D_over 16 = .ok (.ldc 68, 2) := by decide +kernel
theorem d_D_over_18 : decode c_D_over 18 = .ok (.invokespecial 37, 3) := by decide +kernel
theorem d_D_over_21 : decode c_D_over 21 = .ok (.athrow, 1) := by decide +kernel
theorem d_D_over_22 : decode c_D_over 22 = .ok (.iload 5, 2) := by decide +kernel
theorem d_D_over_24 : decode c_D_over 24 = .ok (.iload 6, 2) := by decide +kernel
theorem d_D_over_26 : decode c_D_over 26 = .ok (.invokestatic 40, 3) := by decide +kernel
theorem d_D_over_29 : decode c_D_over 29 = .ok (.iload 5, 2) := by decide +kernel
theorem d_D_over_31 : decode c_D_over 31 = .ok (.iload 6, 2) := by decide +kernel
theorem d_D_over_33 : decode c_D_over 33 = .ok (.invokestatic 44, 3) := by decide +kernel
theorem d_D_over_36 : decode c_D_over 36 = .ok (.aload_n 0, 1) := by decide +kernel
theorem d_D_over_37 : decode c_D_over 37 = .ok (.getfield 22, 3) := by decide +kernel
theorem d_D_over_40 : decode c_D_over 40 = .ok (.getfield 70, 3) := by decide +kernel
theorem d_D_over_43 : decode c_D_over 43 = .ok (.lload_n 1, 1) := by decide +kernel
theorem d_D_over_44 : decode c_D_over 44 = .ok (.invokevirtual 73, 3) := by decide +kernel
theorem d_D_over_47 : decode c_D_over 47 = .ok (.aload_n 0, 1) := by decide +kernel
theorem d_D_over_48 : decode c_D_over 48 = .ok (.getfield 22, 3) := by decide +kernel
theorem d_D_over_51 : decode c_D_over 51 = .ok (.getfield 70, 3) := by decide +kernel
theorem d_D_over_54 : decode c_D_over 54 = .ok (.iload 6, 2) := by decide +kernel
theorem d_D_over_56 : decode c_D_over 56 = .ok (.iload 5, 2) := by decide +kernel
theorem d_D_over_58 : decode c_D_over 58 = .ok (.invokevirtual 79, 3) := by decide +kernel
theorem d_D_over_61 : decode c_D_over 61 = .ok (.aload_n 0, 1) := by decide +kernel
theorem d_D_over_62 : decode c_D_over 62 = .ok (.getfield 22, 3) := by decide +kernel
theorem d_D_over_65 : decode c_D_over 65 = .ok (.getfield 82, 3) := by decide +kernel
theorem d_D_over_68 : decode c_D_over 68 = .ok (.lload_n 3, 1) := by decide +kernel
theorem d_D_over_69 : decode c_D_over 69 = .ok (.invokevirtual 73, 3) := by decide +kernel
theorem d_D_over_72 : decode c_D_over 72 = .ok (.aload_n 0, 1) := by decide +kernel
theorem d_D_over_73 : decode c_D_over 73 = .ok (.getfield 22, 3) := by decide +kernel
theorem d_D_over_76 : decode c_D_over 76 = .ok (.invokevirtual 85, 3) := by decide +kernel
theorem d_D_over_79 : decode c_D_over 79 = .ok (.aload_n 0, 1) := by decide +kernel
theorem d_D_over_80 : decode c_D_over 80 = .ok (.aload_n 0, 1) := by decide +kernel
theorem d_D_over_81 : decode c_D_over 81 = .ok (.getfield 22, 3) := by decide +kernel
theorem d_D_over_84 : decode c_D_over 84 = .ok (.getfield 54, 3) := by decide +kernel
theorem d_D_over_87 : decode c_D_over 87 = .ok (.iload 6, 2) := by decide +kernel
theorem d_D_over_89 : decode c_D_over 89 = .ok (.invokevirtual 58, 3) := by decide +kernel
theorem d_D_over_92 : decode c_D_over 92 = .ok (.ireturn, 1) := by decide +kernel
theorem d_D_number_0 : decode c_D_number 0 = .ok (.lload_n 1, 1) := by decide +kernel
theorem d_D_number_1 : decode c_D_number 1 = .ok (.lconst 0, 1) := by decide +kernel
theorem d_D_number_2 : decode c_D_number 2 = .ok (.lcmp, 1) := by decide +kernel
theorem d_D_number_3 : decode c_D_number 3 = .ok (.ifCond .ge 13, 3) := by decide +kernel
theorem d_D_number_6 : decode c_D_number 6 = .ok (.new 33, 3) := by decide +kernel
theorem d_D_number_9 : decode c_D_number 9 = .ok (.dup, 1) := by decide +kernel
theorem d_D_number_10 : decode c_D_number 10 = .ok (.ldc 62, 2) := by decide +kernel
theorem d_D_number_12 : decode c_D_number 12 = .ok (.invokespecial 37, 3) := by decide +kernel
theorem d_D_number_15 : decode c_D_number 15 = .ok (.athrow, 1) := by decide +kernel
theorem d_D_number_16 : decode c_D_number 16 = .ok (.iload_n 3, 1) := by decide +kernel
theorem d_D_number_17 : decode c_D_number 17 = .ok (.invokestatic 88, 3) := by decide +kernel
theorem d_D_number_20 : decode c_D_number 20 = .ok (.aload_n 0, 1) := by decide +kernel
theorem d_D_number_21 : decode c_D_number 21 = .ok (.getfield 22, 3) := by decide +kernel
theorem d_D_number_24 : decode c_D_number 24 = .ok (.getfield 54, 3) := by decide +kernel
theorem d_D_number_27 : decode c_D_number 27 = .ok (.lload_n 1, 1) := by decide +kernel
theorem d_D_number_28 : decode c_D_number 28 = .ok (.invokevirtual 73, 3) := by decide +kernel
theorem d_D_number_31 : decode c_D_number 31 = .ok (.aload_n 0, 1) := by decide +kernel
theorem d_D_number_32 : decode c_D_number 32 = .ok (.aload_n 0, 1) := by decide +kernel
theorem d_D_number_33 : decode c_D_number 33 = .ok (.getfield 22, 3) := by decide +kernel
theorem d_D_number_36 : decode c_D_number 36 = .ok (.getfield 54, 3) := by decide +kernel
theorem d_D_number_39 : decode c_D_number 39 = .ok (.iload_n 3, 1) := by decide +kernel
theorem d_D_number_40 : decode c_D_number 40 = .ok (.invokevirtual 58, 3) := by decide +kernel
theorem d_D_number_43 : decode c_D_number 43 = .ok (.ireturn, 1) := by decide +kernel
theorem d_D_push_0 : decode c_D_push 0 = .ok (.iload_n 1, 1) := by decide +kernel
theorem d_D_push_1 : decode c_D_push 1 = .ok (.ifCond .lt 14, 3) := by decide +kernel
theorem d_D_push_4 : decode c_D_push 4 = .ok (.iload_n 1, 1) := by decide +kernel
theorem d_D_push_5 : decode c_D_push 5 = .ok (.aload_n 0, 1) := by decide +kernel
theorem d_D_push_6 : decode c_D_push 6 = .ok (.getfield 12, 3) := by decide +kernel
theorem d_D_push_9 : decode c_D_push 9 = .ok (.getfield 92, 3) := by decide +kernel
theorem d_D_push_12 : decode c_D_push 12 = .ok (.if_icmp .lt 13, 3) := by decide +kernel
theorem d_D_push_15 : decode c_D_push 15 = .ok (.new 33, 3) := by decide +kernel
theorem d_D_push_18 : decode c_D_push 18 = .ok (.dup, 1) := by decide +kernel
theorem d_D_push_19 : decode c_D_push 19 = .ok (.ldc 96, 2) := by decide +kernel
theorem d_D_push_21 : decode c_D_push 21 = .ok (.invokespecial 37, 3) := by decide +kernel
theorem d_D_push_24 : decode c_D_push 24 = .ok (.athrow, 1) := by decide +kernel
theorem d_D_push_25 : decode c_D_push 25 = .ok (.aload_n 0, 1) := by decide +kernel
theorem d_D_push_26 : decode c_D_push 26 = .ok (.getfield 22, 3) := by decide +kernel
theorem d_D_push_29 : decode c_D_push 29 = .ok (.getfield 54, 3) := by decide +kernel
theorem d_D_push_32 : decode c_D_push 32 = .ok (.astore_n 2, 1) := by decide +kernel
theorem d_D_push_33 : decode c_D_push 33 = .ok (.aload_n 2, 1) := by decide +kernel
theorem d_D_push_34 : decode c_D_push 34 = .ok (.aload_n 0, 1) := by decide +kernel
theorem d_D_push_35 : decode c_D_push 35 = .ok (.getfield 12, 3) := by decide +kernel
theorem d_D_push_38 : decode c_D_push 38 = .ok (.getfield 98, 3) := by decide +kernel
theorem d_D_push_41 : decode c_D_push 41 = .ok (.invokevirtual 101, 3) := by decide +kernel
theorem d_D_push_44 : decode c_D_push 44 = .ok (.aload_n 2, 1) := by decide +kernel
theorem d_D_push_45 : decode c_D_push 45 = .ok (.aload_n 0, 1) := by decide +kernel
theorem d_D_push_46 : decode c_D_push 46 = .ok (.getfield 12, 3) := by decide +kernel
theorem d_D_push_49 : decode c_D_push 49 = .ok (.getfield 92, 3) := by decide +kernel
theorem d_D_push_52 : decode c_D_push 52 = .ok (.iload_n 1, 1) := by decide +kernel
theorem d_D_push_53 : decode c_D_push 53 = .ok (.invokevirtual 105, 3) := by decide +kernel
theorem d_D_push_56 : decode c_D_push 56 = .ok (.aload_n 2, 1) := by decide +kernel
theorem d_D_push_57 : decode c_D_push 57 = .ok (.invokestatic 108, 3) := by decide +kernel
theorem d_D_push_60 : decode c_D_push 60 = .ok (.aload_n 0, 1) := by decide +kernel
theorem d_D_push_61 : decode c_D_push 61 = .ok (.getfield 12, 3) := by decide +kernel
theorem d_D_push_64 : decode c_D_push 64 = .ok (.getfield 98, 3) := by decide +kernel
theorem d_D_push_67 : decode c_D_push 67 = .ok (.aload_n 2, 1) := by decide +kernel
theorem d_D_push_68 : decode c_D_push 68 = .ok (.invokevirtual 101, 3) := by decide +kernel
theorem d_D_push_71 : decode c_D_push 71 = .ok (.aload_n 0, 1) := by decide +kernel
theorem d_D_push_72 : decode c_D_push 72 = .ok (.getfield 12, 3) := by decide +kernel
theorem d_D_push_75 : decode c_D_push 75 = .ok (.iload_n 1, 1) := by decide +kernel
theorem d_D_push_76 : decode c_D_push 76 = .ok (.invokevirtual 111, 3) := by decide +kernel
theorem d_D_push_79 : decode c_D_push 79 = .ok (.aload_n 0, 1) := by decide +kernel
theorem d_D_push_80 : decode c_D_push 80 = .ok (.invokevirtual 114, 3) := by decide +kernel
theorem d_D_push_83 : decode c_D_push 83 = .ok (.ireturn, 1) := by decide +kernel
theorem d_D_refuseTooLong_0 : decode c_D_refuseTooLong 0 = .ok (.aload_n 0, 1) := by decide +kernel
theorem d_D_refuseTooLong_1 : decode c_D_refuseTooLong 1 = .ok (.invokevirtual 137, 3) := by decide +kernel
theorem d_D_refuseTooLong_4 : decode c_D_refuseTooLong 4 = .ok (.sipush 24000, 3) := by decide +kernel
theorem d_D_refuseTooLong_7 : decode c_D_refuseTooLong 7 = .ok (.if_icmp .le 13, 3) := by decide +kernel
theorem d_D_refuseTooLong_10 : decode c_D_refuseTooLong 10 = .ok (.new 140, 3) := by decide +kernel
theorem d_D_refuseTooLong_13 : decode c_D_refuseTooLong 13 = .ok (.dup, 1) := by decide +kernel
theorem d_D_refuseTooLong_14 : decode c_D_refuseTooLong 14 = .ok (.ldc 197, 2) := by decide +kernel
theorem d_D_refuseTooLong_16 : decode c_D_refuseTooLong 16 = .ok (.invokespecial 144, 3) := by decide +kernel
theorem d_D_refuseTooLong_19 : decode c_D_refuseTooLong 19 = .ok (.athrow, 1) := by decide +kernel
theorem d_D_refuseTooLong_20 : decode c_D_refuseTooLong 20 = .ok (.return_, 1) := by decide +kernel
theorem d_D_add_0 : decode c_D_add 0 = .ok (.aload_n 0, 1) := by decide +kernel
theorem d_D_add_1 : decode c_D_add 1 = .ok (.getfield 22, 3) := by decide +kernel
theorem d_D_add_4 : decode c_D_add 4 = .ok (.getfield 54, 3) := by decide +kernel
theorem d_D_add_7 : decode c_D_add 7 = .ok (.astore_n 1, 1) := by decide +kernel
theorem d_D_add_8 : decode c_D_add 8 = .ok (.aload_n 1, 1) := by decide +kernel
theorem d_D_add_9 : decode c_D_add 9 = .ok (.aload_n 0, 1) := by decide +kernel
theorem d_D_add_10 : decode c_D_add 10 = .ok (.getfield 12, 3) := by decide +kernel
theorem d_D_add_13 : decode c_D_add 13 = .ok (.getfield 98, 3) := by decide +kernel
theorem d_D_add_16 : decode c_D_add 16 = .ok (.invokevirtual 101, 3) := by decide +kernel
theorem d_D_add_19 : decode c_D_add 19 = .ok (.aload_n 1, 1) := by decide +kernel
theorem d_D_add_20 : decode c_D_add 20 = .ok (.aload_n 0, 1) := by decide +kernel
theorem d_D_add_21 : decode c_D_add 21 = .ok (.getfield 16, 3) := by decide +kernel
theorem d_D_add_24 : decode c_D_add 24 = .ok (.getfield 98, 3) := by decide +kernel
theorem d_D_add_27 : decode c_D_add 27 = .ok (.invokevirtual 122, 3) := by decide +kernel
theorem d_D_add_30 : decode c_D_add 30 = .ok (.aload_n 1, 1) := by decide +kernel
theorem d_D_add_31 : decode c_D_add 31 = .ok (.invokestatic 108, 3) := by decide +kernel
theorem d_D_add_34 : decode c_D_add 34 = .ok (.aload_n 0, 1) := by decide +kernel
theorem d_D_add_35 : decode c_D_add 35 = .ok (.aload_n 1, 1) := by decide +kernel
theorem d_D_add_36 : decode c_D_add 36 = .ok (.aload_n 0, 1) := by decide +kernel
theorem d_D_add_37 : decode c_D_add 37 = .ok (.getfield 12, 3) := by decide +kernel
theorem d_D_add_40 : decode c_D_add 40 = .ok (.getfield 92, 3) := by decide +kernel
theorem d_D_add_43 : decode c_D_add 43 = .ok (.invokevirtual 58, 3) := by decide +kernel
theorem d_D_add_46 : decode c_D_add 46 = .ok (.ireturn, 1) := by decide +kernel
theorem d_D_subtract_0 : decode c_D_subtract 0 = .ok (.aload_n 0, 1) := by decide +kernel
theorem d_D_subtract_1 : decode c_D_subtract 1 = .ok (.getfield 12, 3) := by decide +kernel
theorem d_D_subtract_4 : decode c_D_subtract 4 = .ok (.getfield 98, 3) := by decide +kernel
theorem d_D_subtract_7 : decode c_D_subtract 7 = .ok (.aload_n 0, 1) := by decide +kernel
theorem d_D_subtract_8 : decode c_D_subtract 8 = .ok (.getfield 16, 3) := by decide +kernel
theorem d_D_subtract_11 : decode c_D_subtract 11 = .ok (.getfield 98, 3) := by decide +kernel
theorem d_D_subtract_14 : decode c_D_subtract 14 = .ok (.invokevirtual 125, 3) := by decide +kernel
theorem d_D_subtract_17 : decode c_D_subtract 17 = .ok (.ifCond .ge 13, 3) := by decide +kernel
theorem d_D_subtract_20 : decode c_D_subtract 20 = .ok (.new 129, 3) := by decide +kernel
theorem d_D_subtract_23 : decode c_D_subtract 23 = .ok (.dup, 1) := by decide +kernel
theorem d_D_subtract_24 : decode c_D_subtract 24 = .ok (.ldc 131, 2) := by decide +kernel
theorem d_D_subtract_26 : decode c_D_subtract 26 = .ok (.invokespecial 133, 3) := by decide +kernel
theorem d_D_subtract_29 : decode c_D_subtract 29 = .ok (.athrow, 1) := by decide +kernel
theorem d_D_subtract_30 : decode c_D_subtract 30 = .ok (.aload_n 0, 1) := by decide +kernel
theorem d_D_subtract_31 : decode c_D_subtract 31 = .ok (.getfield 22, 3) := by decide +kernel
theorem d_D_subtract_34 : decode c_D_subtract 34 = .ok (.getfield 54, 3) := by decide +kernel
theorem d_D_subtract_37 : decode c_D_subtract 37 = .ok (.astore_n 1, 1) := by decide +kernel
theorem d_D_subtract_38 : decode c_D_subtract 38 = .ok (.aload_n 1, 1) := by decide +kernel
theorem d_D_subtract_39 : decode c_D_subtract 39 = .ok (.aload_n 0, 1) := by decide +kernel
theorem d_D_subtract_40 : decode c_D_subtract 40 = .ok (.getfield 12, 3) := by decide +kernel
theorem d_D_subtract_43 : decode c_D_subtract 43 = .ok (.getfield 98, 3) := by decide +kernel
theorem d_D_subtract_46 : decode c_D_subtract 46 = .ok (.invokevirtual 101, 3) := by decide +kernel
theorem d_D_subtract_49 : decode c_D_subtract 49 = .ok (.aload_n 1, 1) := by decide +kernel
theorem d_D_subtract_50 : decode c_D_subtract 50 = .ok (.aload_n 0, 1) := by decide +kernel
theorem d_D_subtract_51 : decode c_D_subtract 51 = .ok (.getfield 16, 3) := by decide +kernel
theorem d_D_subtract_54 : decode c_D_subtract 54 = .ok (.getfield 98, 3) := by decide +kernel
theorem d_D_subtract_57 : decode c_D_subtract 57 = .ok (.invokevirtual 134, 3) := by decide +kernel
theorem d_D_subtract_60 : decode c_D_subtract 60 = .ok (.aload_n 0, 1) := by decide +kernel
theorem d_D_subtract_61 : decode c_D_subtract 61 = .ok (.aload_n 1, 1) := by decide +kernel
theorem d_D_subtract_62 : decode c_D_subtract 62 = .ok (.aload_n 0, 1) := by decide +kernel
theorem d_D_subtract_63 : decode c_D_subtract 63 = .ok (.getfield 12, 3) := by decide +kernel
theorem d_D_subtract_66 : decode c_D_subtract 66 = .ok (.getfield 92, 3) := by decide +kernel
theorem d_D_subtract_69 : decode c_D_subtract 69 = .ok (.invokevirtual 58, 3) := by decide +kernel
theorem d_D_subtract_72 : decode c_D_subtract 72 = .ok (.ireturn, 1) := by decide +kernel
theorem d_D_times_0 : decode c_D_times 0 = .ok (.aload_n 0, 1) := by decide +kernel
theorem d_D_times_1 : decode c_D_times 1 = .ok (.getfield 12, 3) := by decide +kernel
theorem d_D_times_4 : decode c_D_times 4 = .ok (.getfield 98, 3) := by decide +kernel
theorem d_D_times_7 : decode c_D_times 7 = .ok (.invokevirtual 137, 3) := by decide +kernel
theorem d_D_times_10 : decode c_D_times 10 = .ok (.aload_n 0, 1) := by decide +kernel
theorem d_D_times_11 : decode c_D_times 11 = .ok (.getfield 16, 3) := by decide +kernel
theorem d_D_times_14 : decode c_D_times 14 = .ok (.getfield 98, 3) := by decide +kernel
theorem d_D_times_17 : decode c_D_times 17 = .ok (.invokevirtual 137, 3) := by decide +kernel
theorem d_D_times_20 : decode c_D_times 20 = .ok (.iadd, 1) := by decide +kernel
theorem d_D_times_21 : decode c_D_times 21 = .ok (.sipush 24001, 3) := by decide +kernel
theorem d_D_times_24 : decode c_D_times 24 = .ok (.if_icmp .le 13, 3) := by decide +kernel
theorem d_D_times_27 : decode c_D_times 27 = .ok (.new 140, 3) := by decide +kernel
theorem d_D_times_30 : decode c_D_times 30 = .ok (.dup, 1) := by decide +kernel
theorem d_D_times_31 : decode c_D_times 31 = .ok (.ldc 142, 2) := by decide +kernel
theorem d_D_times_33 : decode c_D_times 33 = .ok (.invokespecial 144, 3) := by decide +kernel
theorem d_D_times_36 : decode c_D_times 36 = .ok (.athrow, 1) := by decide +kernel
theorem d_D_times_37 : decode c_D_times 37 = .ok (.aload_n 0, 1) := by decide +kernel
theorem d_D_times_38 : decode c_D_times 38 = .ok (.getfield 22, 3) := by decide +kernel
theorem d_D_times_41 : decode c_D_times 41 = .ok (.getfield 54, 3) := by decide +kernel
theorem d_D_times_44 : decode c_D_times 44 = .ok (.astore_n 1, 1) := by decide +kernel
theorem d_D_times_45 : decode c_D_times 45 = .ok (.aload_n 1, 1) := by decide +kernel
theorem d_D_times_46 : decode c_D_times 46 = .ok (.aload_n 0, 1) := by decide +kernel
theorem d_D_times_47 : decode c_D_times 47 = .ok (.getfield 12, 3) := by decide +kernel
theorem d_D_times_50 : decode c_D_times 50 = .ok (.getfield 98, 3) := by decide +kernel
theorem d_D_times_53 : decode c_D_times 53 = .ok (.aload_n 0, 1) := by decide +kernel
theorem d_D_times_54 : decode c_D_times 54 = .ok (.getfield 16, 3) := by decide +kernel
theorem d_D_times_57 : decode c_D_times 57 = .ok (.getfield 98, 3) := by decide +kernel
theorem d_D_times_60 : decode c_D_times 60 = .ok (.invokevirtual 145, 3) := by decide +kernel
theorem d_D_times_63 : decode c_D_times 63 = .ok (.aload_n 1, 1) := by decide +kernel
theorem d_D_times_64 : decode c_D_times 64 = .ok (.invokestatic 108, 3) := by decide +kernel
theorem d_D_times_67 : decode c_D_times 67 = .ok (.aload_n 0, 1) := by decide +kernel
theorem d_D_times_68 : decode c_D_times 68 = .ok (.aload_n 1, 1) := by decide +kernel
theorem d_D_times_69 : decode c_D_times 69 = .ok (.aload_n 0, 1) := by decide +kernel
theorem d_D_times_70 : decode c_D_times 70 = .ok (.getfield 12, 3) := by decide +kernel
theorem d_D_times_73 : decode c_D_times 73 = .ok (.getfield 92, 3) := by decide +kernel
theorem d_D_times_76 : decode c_D_times 76 = .ok (.invokevirtual 58, 3) := by decide +kernel
theorem d_D_times_79 : decode c_D_times 79 = .ok (.ireturn, 1) := by decide +kernel
theorem d_D_divide_0 : decode c_D_divide 0 = .ok (.aload_n 0, 1) := by decide +kernel
theorem d_D_divide_1 : decode c_D_divide 1 = .ok (.getfield 16, 3) := by decide +kernel
theorem d_D_divide_4 : decode c_D_divide 4 = .ok (.getfield 98, 3) := by decide +kernel
theorem d_D_divide_7 : decode c_D_divide 7 = .ok (.getfield 149, 3) := by decide +kernel
theorem d_D_divide_10 : decode c_D_divide 10 = .ok (.ifCond .ne 13, 3) := by decide +kernel
theorem d_D_divide_13 : decode c_D_divide 13 = .ok (.new 129, 3) := by decide +kernel
theorem d_D_divide_16 : decode c_D_divide 16 = .ok (.dup, 1) := by decide +kernel
theorem d_D_divide_17 : decode c_D_divide 17 = .ok (.ldc 152, 2) := by decide +kernel
theorem d_D_divide_19 : decode c_D_divide 19 = .ok (.invokespecial 133, 3) := by decide +kernel
theorem d_D_divide_22 : decode c_D_divide 22 = .ok (.athrow, 1) := by decide +kernel
theorem d_D_divide_23 : decode c_D_divide 23 = .ok (.aload_n 0, 1) := by decide +kernel
theorem d_D_divide_24 : decode c_D_divide 24 = .ok (.getfield 22, 3) := by decide +kernel
theorem d_D_divide_27 : decode c_D_divide 27 = .ok (.getfield 70, 3) := by decide +kernel
theorem d_D_divide_30 : decode c_D_divide 30 = .ok (.aload_n 0, 1) := by decide +kernel
theorem d_D_divide_31 : decode c_D_divide 31 = .ok (.getfield 12, 3) := by decide +kernel
theorem d_D_divide_34 : decode c_D_divide 34 = .ok (.getfield 98, 3) := by decide +kernel
theorem d_D_divide_37 : decode c_D_divide 37 = .ok (.invokevirtual 101, 3) := by decide +kernel
theorem d_D_divide_40 : decode c_D_divide 40 = .ok (.aload_n 0, 1) := by decide +kernel
theorem d_D_divide_41 : decode c_D_divide 41 = .ok (.getfield 22, 3) := by decide +kernel
theorem d_D_divide_44 : decode c_D_divide 44 = .ok (.getfield 82, 3) := by decide +kernel
theorem d_D_divide_47 : decode c_D_divide 47 = .ok (.aload_n 0, 1) := by decide +kernel
theorem d_D_divide_48 : decode c_D_divide 48 = .ok (.getfield 16, 3) := by decide +kernel
theorem d_D_divide_51 : decode c_D_divide 51 = .ok (.getfield 98, 3) := by decide +kernel
theorem d_D_divide_54 : decode c_D_divide 54 = .ok (.invokevirtual 101, 3) := by decide +kernel
theorem d_D_divide_57 : decode c_D_divide 57 = .ok (.aload_n 0, 1) := by decide +kernel
theorem d_D_divide_58 : decode c_D_divide 58 = .ok (.getfield 22, 3) := by decide +kernel
theorem d_D_divide_61 : decode c_D_divide 61 = .ok (.invokevirtual 85, 3) := by decide +kernel
theorem d_D_divide_64 : decode c_D_divide 64 = .ok (.aload_n 0, 1) := by decide +kernel
theorem d_D_divide_65 : decode c_D_divide 65 = .ok (.getfield 16, 3) := by decide +kernel
theorem d_D_divide_68 : decode c_D_divide 68 = .ok (.aload_n 0, 1) := by decide +kernel
theorem d_D_divide_69 : decode c_D_divide 69 = .ok (.getfield 22, 3) := by decide +kernel
theorem d_D_divide_72 : decode c_D_divide 72 = .ok (.getfield 70, 3) := by decide +kernel
theorem d_D_divide_75 : decode c_D_divide 75 = .ok (.aload_n 0, 1) := by decide +kernel
theorem d_D_divide_76 : decode c_D_divide 76 = .ok (.getfield 16, 3) := by decide +kernel
theorem d_D_divide_79 : decode c_D_divide 79 = .ok (.getfield 92, 3) := by decide +kernel
theorem d_D_divide_82 : decode c_D_divide 82 = .ok (.invokevirtual 154, 3) := by decide +kernel
theorem d_D_divide_85 : decode c_D_divide 85 = .ok (.aload_n 0, 1) := by decide +kernel
theorem d_D_divide_86 : decode c_D_divide 86 = .ok (.aload_n 0, 1) := by decide +kernel
theorem d_D_divide_87 : decode c_D_divide 87 = .ok (.getfield 22, 3) := by decide +kernel
theorem d_D_divide_90 : decode c_D_divide 90 = .ok (.getfield 54, 3) := by decide +kernel
theorem d_D_divide_93 : decode c_D_divide 93 = .ok (.aload_n 0, 1) := by decide +kernel
theorem d_D_divide_94 : decode c_D_divide 94 = .ok (.getfield 12, 3) := by decide +kernel
theorem d_D_divide_97 : decode c_D_divide 97 = .ok (.getfield 92, 3) := by decide +kernel
theorem d_D_divide_100 : decode c_D_divide 100 = .ok (.invokevirtual 58, 3) := by decide +kernel
theorem d_D_divide_103 : decode c_D_divide 103 = .ok (.ireturn, 1) := by decide +kernel
theorem d_D_convert_0 : decode c_D_convert 0 = .ok (.iload_n 1, 1) := by decide +kernel
theorem d_D_convert_1 : decode c_D_convert 1 = .ok (.invokestatic 88, 3) := by decide +kernel
theorem d_D_convert_4 : decode c_D_convert 4 = .ok (.aload_n 0, 1) := by decide +kernel
theorem d_D_convert_5 : decode c_D_convert 5 = .ok (.getfield 12, 3) := by decide +kernel
theorem d_D_convert_8 : decode c_D_convert 8 = .ok (.iload_n 1, 1) := by decide +kernel
theorem d_D_convert_9 : decode c_D_convert 9 = .ok (.invokevirtual 161, 3) := by decide +kernel
theorem d_D_convert_12 : decode c_D_convert 12 = .ok (.aload_n 0, 1) := by decide +kernel
theorem d_D_convert_13 : decode c_D_convert 13 = .ok (.invokevirtual 114, 3) := by decide +kernel
theorem d_D_convert_16 : decode c_D_convert 16 = .ok (.ireturn, 1) := by decide +kernel
theorem d_D_digit_0 : decode c_D_digit 0 = .ok (.iload_n 1, 1) := by decide +kernel
theorem d_D_digit_1 : decode c_D_digit 1 = .ok (.ifCond .lt 11, 3) := by decide +kernel
theorem d_D_digit_4 : decode c_D_digit 4 = .ok (.iload_n 1, 1) := by decide +kernel
theorem d_D_digit_5 : decode c_D_digit 5 = .ok (.aload_n 0, 1) := by decide +kernel
theorem d_D_digit_6 : decode c_D_digit 6 = .ok (.invokevirtual 114, 3) := by decide +kernel
theorem d_D_digit_9 : decode c_D_digit 9 = .ok (.if_icmp .lt 13, 3) := by decide +kernel
theorem d_D_digit_12 : decode c_D_digit 12 = .ok (.new 164, 3) := by decide +kernel
theorem d_D_digit_15 : decode c_D_digit 15 = .ok (.dup, 1) := by decide +kernel
theorem d_D_digit_16 : decode c_D_digit 16 = .ok (.ldc 166, 2) := by decide +kernel
theorem d_D_digit_18 : decode c_D_digit 18 = .ok (.invokespecial 168, 3) := by decide +kernel
theorem d_D_digit_21 : decode c_D_digit 21 = .ok (.athrow, 1) := by decide +kernel
theorem d_D_digit_22 : decode c_D_digit 22 = .ok (.aload_n 0, 1) := by decide +kernel
theorem d_D_digit_23 : decode c_D_digit 23 = .ok (.getfield 12, 3) := by decide +kernel
theorem d_D_digit_26 : decode c_D_digit 26 = .ok (.iload_n 1, 1) := by decide +kernel
theorem d_D_digit_27 : decode c_D_digit 27 = .ok (.invokevirtual 169, 3) := by decide +kernel
theorem d_D_digit_30 : decode c_D_digit 30 = .ok (.ireturn, 1) := by decide +kernel
theorem d_D_about_0 : decode c_D_about 0 = .ok (.iload_n 1, 1) := by decide +kernel
theorem d_D_about_1 : decode c_D_about 1 = .ok (.tableswitch 60 0 3 #[31, 36, 47, 55], 31) := by decide +kernel
theorem d_D_about_32 : decode c_D_about 32 = .ok (.aload_n 0, 1) := by decide +kernel
theorem d_D_about_33 : decode c_D_about 33 = .ok (.invokevirtual 114, 3) := by decide +kernel
theorem d_D_about_36 : decode c_D_about 36 = .ok (.ireturn, 1) := by decide +kernel
theorem d_D_about_37 : decode c_D_about 37 = .ok (.aload_n 0, 1) := by decide +kernel
theorem d_D_about_38 : decode c_D_about 38 = .ok (.getfield 12, 3) := by decide +kernel
theorem d_D_about_41 : decode c_D_about 41 = .ok (.getfield 98, 3) := by decide +kernel
theorem d_D_about_44 : decode c_D_about 44 = .ok (.invokevirtual 137, 3) := by decide +kernel
theorem d_D_about_47 : decode c_D_about 47 = .ok (.ireturn, 1) := by decide +kernel
theorem d_D_about_48 : decode c_D_about 48 = .ok (.aload_n 0, 1) := by decide +kernel
theorem d_D_about_49 : decode c_D_about 49 = .ok (.getfield 12, 3) := by decide +kernel
theorem d_D_about_52 : decode c_D_about 52 = .ok (.getfield 92, 3) := by decide +kernel
theorem d_D_about_55 : decode c_D_about 55 = .ok (.ireturn, 1) := by decide +kernel
theorem d_D_about_56 : decode c_D_about 56 = .ok (.aload_n 0, 1) := by decide +kernel
theorem d_D_about_57 : decode c_D_about 57 = .ok (.invokevirtual 173, 3) := by decide +kernel
theorem d_D_about_60 : decode c_D_about 60 = .ok (.ireturn, 1) := by decide +kernel
theorem d_D_about_61 : decode c_D_about 61 = .ok (.new 33, 3) := by decide +kernel
theorem d_D_about_64 : decode c_D_about 64 = .ok (.dup, 1) := by decide +kernel
theorem d_D_about_65 : decode c_D_about 65 = .ok (.ldc 176, 2) := by decide +kernel
theorem d_D_about_67 : decode c_D_about 67 = .ok (.invokespecial 37, 3) := by decide +kernel
theorem d_D_about_70 : decode c_D_about 70 = .ok (.athrow, 1) := by decide +kernel
theorem d_D_digitSum_0 : decode c_D_digitSum 0 = .ok (.aload_n 0, 1) := by decide +kernel
theorem d_D_digitSum_1 : decode c_D_digitSum 1 = .ok (.getfield 12, 3) := by decide +kernel
theorem d_D_digitSum_4 : decode c_D_digitSum 4 = .ok (.aload_n 0, 1) := by decide +kernel
theorem d_D_digitSum_5 : decode c_D_digitSum 5 = .ok (.getfield 22, 3) := by decide +kernel
theorem d_D_digitSum_8 : decode c_D_digitSum 8 = .ok (.getfield 70, 3) := by decide +kernel
theorem d_D_digitSum_11 : decode c_D_digitSum 11 = .ok (.invokevirtual 209, 3) := by decide +kernel
theorem d_D_digitSum_14 : decode c_D_digitSum 14 = .ok (.aload_n 0, 1) := by decide +kernel
theorem d_D_digitSum_15 : decode c_D_digitSum 15 = .ok (.getfield 12, 3) := by decide +kernel
theorem d_D_digitSum_18 : decode c_D_digitSum 18 = .ok (.invokevirtual 214, 3) := by decide +kernel
theorem d_D_digitSum_21 : decode c_D_digitSum 21 = .ok (.ireturn, 1) := by decide +kernel
theorem d_D_count_0 : decode c_D_count 0 = .ok (.iload_n 2, 1) := by decide +kernel
theorem d_D_count_1 : decode c_D_count 1 = .ok (.ifCond .lt 11, 3) := by decide +kernel
theorem d_D_count_4 : decode c_D_count 4 = .ok (.iload_n 3, 1) := by decide +kernel
theorem d_D_count_5 : decode c_D_count 5 = .ok (.aload_n 0, 1) := by decide +kernel
theorem d_D_count_6 : decode c_D_count 6 = .ok (.invokevirtual 114, 3) := by decide +kernel
theorem d_D_count_9 : decode c_D_count 9 = .ok (.if_icmp .lt 13, 3) := by decide +kernel
theorem d_D_count_12 : decode c_D_count 12 = .ok (.new 164, 3) := by decide +kernel
theorem d_D_count_15 : decode c_D_count 15 = .ok (.dup, 1) := by decide +kernel
theorem d_D_count_16 : decode c_D_count 16 = .ok (.ldc 178, 2) := by decide +kernel
theorem d_D_count_18 : decode c_D_count 18 = .ok (.invokespecial 168, 3) := by decide +kernel
theorem d_D_count_21 : decode c_D_count 21 = .ok (.athrow, 1) := by decide +kernel
theorem d_D_count_22 : decode c_D_count 22 = .ok (.iconst 0, 1) := by decide +kernel
theorem d_D_count_23 : decode c_D_count 23 = .ok (.istore 4, 2) := by decide +kernel
theorem d_D_count_25 : decode c_D_count 25 = .ok (.iload_n 2, 1) := by decide +kernel
theorem d_D_count_26 : decode c_D_count 26 = .ok (.istore 5, 2) := by decide +kernel
theorem d_D_count_28 : decode c_D_count 28 = .ok (.iload 5, 2) := by decide +kernel
theorem d_D_count_30 : decode c_D_count 30 = .ok (.iload_n 3, 1) := by decide +kernel
theorem d_D_count_31 : decode c_D_count 31 = .ok (.if_icmp .gt 25, 3) := by decide +kernel
theorem d_D_count_34 : decode c_D_count 34 = .ok (.aload_n 0, 1) := by decide +kernel
theorem d_D_count_35 : decode c_D_count 35 = .ok (.getfield 12, 3) := by decide +kernel
theorem d_D_count_38 : decode c_D_count 38 = .ok (.iload 5, 2) := by decide +kernel
theorem d_D_count_40 : decode c_D_count 40 = .ok (.invokevirtual 169, 3) := by decide +kernel
theorem d_D_count_43 : decode c_D_count 43 = .ok (.iload_n 1, 1) := by decide +kernel
theorem d_D_count_44 : decode c_D_count 44 = .ok (.if_icmp .ne 6, 3) := by decide +kernel
theorem d_D_count_47 : decode c_D_count 47 = .ok (.iinc 4 1, 3) := by decide +kernel
theorem d_D_count_50 : decode c_D_count 50 = .ok (.iinc 5 1, 3) := by decide +kernel
theorem d_D_count_53 : decode c_D_count 53 = .ok (.goto (-25), 3) := by decide +kernel
theorem d_D_count_56 : decode c_D_count 56 = .ok (.iload 4, 2) := by decide +kernel
theorem d_D_count_58 : decode c_D_count 58 = .ok (.ireturn, 1) := by decide +kernel
theorem d_D_find_0 : decode c_D_find 0 = .ok (.iload_n 3, 1) := by decide +kernel
theorem d_D_find_1 : decode c_D_find 1 = .ok (.iconst 1, 1) := by decide +kernel
theorem d_D_find_2 : decode c_D_find 2 = .ok (.if_icmp .lt 20, 3) := by decide +kernel
theorem d_D_find_5 : decode c_D_find 5 = .ok (.iload_n 3, 1) := by decide +kernel
theorem d_D_find_6 : decode c_D_find 6 = .ok (.bipush 12, 2) := by decide +kernel
theorem d_D_find_8 : decode c_D_find 8 = .ok (.if_icmp .gt 14, 3) := by decide +kernel
theorem d_D_find_11 : decode c_D_find 11 = .ok (.lload_n 1, 1) := by decide +kernel
theorem d_D_find_12 : decode c_D_find 12 = .ok (.lconst 0, 1) := by decide +kernel
theorem d_D_find_13 : decode c_D_find 13 = .ok (.lcmp, 1) := by decide +kernel
theorem d_D_find_14 : decode c_D_find 14 = .ok (.ifCond .lt 8, 3) := by decide +kernel
theorem d_D_find_17 : decode c_D_find 17 = .ok (.iload 4, 2) := by decide +kernel
theorem d_D_find_19 : decode c_D_find 19 = .ok (.ifCond .ge 13, 3) := by decide +kernel
theorem d_D_find_22 : decode c_D_find 22 = .ok (.new 33, 3) := by decide +kernel
theorem d_D_find_25 : decode c_D_find 25 = .ok (.dup, 1) := by decide +kernel
theorem d_D_find_26 : decode c_D_find 26 = .ok (.ldc 180, 2) := by decide +kernel
theorem d_D_find_28 : decode c_D_find 28 = .ok (.invokespecial 37, 3) := by decide +kernel
theorem d_D_find_31 : decode c_D_find 31 = .ok (.athrow, 1) := by decide +kernel
theorem d_D_find_32 : decode c_D_find 32 = .ok (.aload_n 0, 1) := by decide +kernel
theorem d_D_find_33 : decode c_D_find 33 = .ok (.getfield 12, 3) := by decide +kernel
theorem d_D_find_36 : decode c_D_find 36 = .ok (.getfield 92, 3) := by decide +kernel
theorem d_D_find_39 : decode c_D_find 39 = .ok (.iload_n 3, 1) := by decide +kernel
theorem d_D_find_40 : decode c_D_find 40 = .ok (.iconst 1, 1) := by decide +kernel
theorem d_D_find_41 : decode c_D_find 41 = .ok (.isub, 1) := by decide +kernel
theorem d_D_find_42 : decode c_D_find 42 = .ok (.invokestatic 182, 3) := by decide +kernel
theorem d_D_find_45 : decode c_D_find 45 = .ok (.lstore 5, 2) := by decide +kernel
theorem d_D_find_47 : decode c_D_find 47 = .ok (.lload_n 1, 1) := by decide +kernel
theorem d_D_find_48 : decode c_D_find 48 = .ok (.aload_n 0, 1) := by decide +kernel
theorem d_D_find_49 : decode c_D_find 49 = .ok (.getfield 12, 3) := by decide +kernel
theorem d_D_find_52 : decode c_D_find 52 = .ok (.getfield 92, 3) := by decide +kernel
theorem d_D_find_55 : decode c_D_find 55 = .ok (.i2l, 1) := by decide +kernel
theorem d_D_find_56 : decode c_D_find 56 = .ok (.ldiv, 1) := by decide +kernel
theorem d_D_find_57 : decode c_D_find 57 = .ok (.lload 5, 2) := by decide +kernel
theorem d_D_find_59 : decode c_D_find 59 = .ok (.lcmp, 1) := by decide +kernel
theorem d_D_find_60 : decode c_D_find 60 = .ok (.ifCond .lt 13, 3) := by decide +kernel
theorem d_D_find_63 : decode c_D_find 63 = .ok (.new 33, 3) := by decide +kernel
theorem d_D_find_66 : decode c_D_find 66 = .ok (.dup, 1) := by decide +kernel
theorem d_D_find_67 : decode c_D_find 67 = .ok (.ldc 186, 2) := by decide +kernel
theorem d_D_find_69 : decode c_D_find 69 = .ok (.invokespecial 37, 3) := by decide +kernel
theorem d_D_find_72 : decode c_D_find 72 = .ok (.athrow, 1) := by decide +kernel
theorem d_D_find_73 : decode c_D_find 73 = .ok (.aload_n 0, 1) := by decide +kernel
theorem d_D_find_74 : decode c_D_find 74 = .ok (.invokevirtual 114, 3) := by decide +kernel
theorem d_D_find_77 : decode c_D_find 77 = .ok (.istore 7, 2) := by decide +kernel
theorem d_D_find_79 : decode c_D_find 79 = .ok (.lconst 0, 1) := by decide +kernel
theorem d_D_find_80 : decode c_D_find 80 = .ok (.lstore 8, 2) := by decide +kernel
theorem d_D_find_82 : decode c_D_find 82 = .ok (.iconst 0, 1) := by decide +kernel
theorem d_D_find_83 : decode c_D_find 83 = .ok (.istore 10, 2) := by decide +kernel
theorem d_D_find_85 : decode c_D_find 85 = .ok (.iload 4, 2) := by decide +kernel
theorem d_D_find_87 : decode c_D_find 87 = .ok (.istore 11, 2) := by decide +kernel
theorem d_D_find_89 : decode c_D_find 89 = .ok (.iload 11, 2) := by decide +kernel
theorem d_D_find_91 : decode c_D_find 91 = .ok (.iload 7, 2) := by decide +kernel
theorem d_D_find_93 : decode c_D_find 93 = .ok (.if_icmp .ge 59, 3) := by decide +kernel
theorem d_D_find_96 : decode c_D_find 96 = .ok (.lload 8, 2) := by decide +kernel
theorem d_D_find_98 : decode c_D_find 98 = .ok (.lload 5, 2) := by decide +kernel
theorem d_D_find_100 : decode c_D_find 100 = .ok (.lrem, 1) := by decide +kernel
theorem d_D_find_101 : decode c_D_find 101 = .ok (.aload_n 0, 1) := by decide +kernel
theorem d_D_find_102 : decode c_D_find 102 = .ok (.getfield 12, 3) := by decide +kernel
theorem d_D_find_105 : decode c_D_find 105 = .ok (.getfield 92, 3) := by decide +kernel
theorem d_D_find_108 : decode c_D_find 108 = .ok (.i2l, 1) := by decide +kernel
theorem d_D_find_109 : decode c_D_find 109 = .ok (.lmul, 1) := by decide +kernel
theorem d_D_find_110 : decode c_D_find 110 = .ok (.aload_n 0, 1) := by decide +kernel
theorem d_D_find_111 : decode c_D_find 111 = .ok (.getfield 12, 3) := by decide +kernel
theorem d_D_find_114 : decode c_D_find 114 = .ok (.iload 11, 2) := by decide +kernel
theorem d_D_find_116 : decode c_D_find 116 = .ok (.invokevirtual 169, 3) := by decide +kernel
theorem d_D_find_119 : decode c_D_find 119 = .ok (.i2l, 1) := by decide +kernel
theorem d_D_find_120 : decode c_D_find 120 = .ok (.ladd, 1) := by decide +kernel
theorem d_D_find_121 : decode c_D_find 121 = .ok (.lstore 8, 2) := by decide +kernel
theorem d_D_find_123 : decode c_D_find 123 = .ok (.iinc 10 1, 3) := by decide +kernel
theorem d_D_find_126 : decode c_D_find 126 = .ok (.iload 10, 2) := by decide +kernel
theorem d_D_find_128 : decode c_D_find 128 = .ok (.iload_n 3, 1) := by decide +kernel
theorem d_D_find_129 : decode c_D_find 129 = .ok (.if_icmp .lt 17, 3) := by decide +kernel
theorem d_D_find_132 : decode c_D_find 132 = .ok (.lload 8, 2) := by decide +kernel
theorem d_D_find_134 : decode c_D_find 134 = .ok (.lload_n 1, 1) := by decide +kernel
theorem d_D_find_135 : decode c_D_find 135 = .ok (.lcmp, 1) := by decide +kernel
theorem d_D_find_136 : decode c_D_find 136 = .ok (.ifCond .ne 10, 3) := by decide +kernel
theorem d_D_find_139 : decode c_D_find 139 = .ok (.iload 11, 2) := by decide +kernel
theorem d_D_find_141 : decode c_D_find 141 = .ok (.iload_n 3, 1) := by decide +kernel
theorem d_D_find_142 : decode c_D_find 142 = .ok (.isub, 1) := by decide +kernel
theorem d_D_find_143 : decode c_D_find 143 = .ok (.iconst 1, 1) := by decide +kernel
theorem d_D_find_144 : decode c_D_find 144 = .ok (.iadd, 1) := by decide +kernel
theorem d_D_find_145 : decode c_D_find 145 = .ok (.ireturn, 1) := by decide +kernel
theorem d_D_find_146 : decode c_D_find 146 = .ok (.iinc 11 1, 3) := by decide +kernel
theorem d_D_find_149 : decode c_D_find 149 = .ok (.goto (-60), 3) := by decide +kernel
theorem d_D_find_152 : decode c_D_find 152 = .ok (.iconst (-1), 1) := by decide +kernel
theorem d_D_find_153 : decode c_D_find 153 = .ok (.ireturn, 1) := by decide +kernel
