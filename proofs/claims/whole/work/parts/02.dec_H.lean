theorem d_H_init_0 : decode c_H_init 0 = .ok (.aload_n 0, 1) := by decide +kernel
theorem d_H_init_1 : decode c_H_init 1 = .ok (.invokespecial 3, 3) := by decide +kernel
theorem d_H_init_4 : decode c_H_init 4 = .ok (.aload_n 0, 1) := by decide +kernel
theorem d_H_init_5 : decode c_H_init 5 = .ok (.iload_n 1, 1) := by decide +kernel
theorem d_H_init_6 : decode c_H_init 6 = .ok (.newarray .int, 2) := by decide +kernel
theorem d_H_init_8 : decode c_H_init 8 = .ok (.putfield 9, 3) := by decide +kernel
theorem d_H_init_11 : decode c_H_init 11 = .ok (.return_, 1) := by decide +kernel
theorem d_D_digitsPerGroup_0 : decode c_D_digitsPerGroup 0 = .ok (.iconst 1, 1) := by decide +kernel
theorem d_D_digitsPerGroup_1 : decode c_D_digitsPerGroup 1 = .ok (.istore_n 1, 1) := by decide +kernel
theorem d_D_digitsPerGroup_2 : decode c_D_digitsPerGroup 2 = .ok (.iload_n 0, 1) := by decide +kernel
theorem d_D_digitsPerGroup_3 : decode c_D_digitsPerGroup 3 = .ok (.i2l, 1) := by decide +kernel
theorem d_D_digitsPerGroup_4 : decode c_D_digitsPerGroup 4 = .ok (.iload_n 0, 1) := by decide +kernel
theorem d_D_digitsPerGroup_5 : decode c_D_digitsPerGroup 5 = .ok (.i2l, 1) := by decide +kernel
theorem d_D_digitsPerGroup_6 : decode c_D_digitsPerGroup 6 = .ok (.lmul, 1) := by decide +kernel
theorem d_D_digitsPerGroup_7 : decode c_D_digitsPerGroup 7 = .ok (.lstore_n 2, 1) := by decide +kernel
theorem d_D_digitsPerGroup_8 : decode c_D_digitsPerGroup 8 = .ok (.lload_n 2, 1) := by decide +kernel
theorem d_D_digitsPerGroup_9 : decode c_D_digitsPerGroup 9 = .ok (.ldc2_w 207, 3) := by decide +kernel
theorem d_D_digitsPerGroup_12 : decode c_D_digitsPerGroup 12 = .ok (.lcmp, 1) := by decide +kernel
theorem d_D_digitsPerGroup_13 : decode c_D_digitsPerGroup 13 = .ok (.ifCond .gt 20, 3) := by decide +kernel
theorem d_D_digitsPerGroup_16 : decode c_D_digitsPerGroup 16 = .ok (.iload_n 1, 1) := by decide +kernel
theorem d_D_digitsPerGroup_17 : decode c_D_digitsPerGroup 17 = .ok (.bipush 30, 2) := by decide +kernel
theorem d_D_digitsPerGroup_19 : decode c_D_digitsPerGroup 19 = .ok (.if_icmp .ge 14, 3) := by decide +kernel
theorem d_D_digitsPerGroup_22 : decode c_D_digitsPerGroup 22 = .ok (.iinc 1 1, 3) := by decide +kernel
theorem d_D_digitsPerGroup_25 : decode c_D_digitsPerGroup 25 = .ok (.lload_n 2, 1) := by decide +kernel
theorem d_D_digitsPerGroup_26 : decode c_D_digitsPerGroup 26 = .ok (.iload_n 0, 1) := by decide +kernel
theorem d_D_digitsPerGroup_27 : decode c_D_digitsPerGroup 27 = .ok (.i2l, 1) := by decide +kernel
theorem d_D_digitsPerGroup_28 : decode c_D_digitsPerGroup 28 = .ok (.lmul, 1) := by decide +kernel
theorem d_D_digitsPerGroup_29 : decode c_D_digitsPerGroup 29 = .ok (.lstore_n 2, 1) := by decide +kernel
theorem d_D_digitsPerGroup_30 : decode c_D_digitsPerGroup 30 = .ok (.goto (-22), 3) := by decide +kernel
theorem d_D_digitsPerGroup_33 : decode c_D_digitsPerGroup 33 = .ok (.iload_n 1, 1) := by decide +kernel
theorem d_D_digitsPerGroup_34 : decode c_D_digitsPerGroup 34 = .ok (.ireturn, 1) := by decide +kernel
theorem d_H_copy_0 : decode c_H_copy 0 = .ok (.aload_n 0, 1) := by decide +kernel
theorem d_H_copy_1 : decode c_H_copy 1 = .ok (.aload_n 1, 1) := by decide +kernel
theorem d_H_copy_2 : decode c_H_copy 2 = .ok (.getfield 9, 3) := by decide +kernel
theorem d_H_copy_5 : decode c_H_copy 5 = .ok (.aload_n 1, 1) := by decide +kernel
theorem d_H_copy_6 : decode c_H_copy 6 = .ok (.getfield 15, 3) := by decide +kernel
theorem d_H_copy_9 : decode c_H_copy 9 = .ok (.invokevirtual 21, 3) := by decide +kernel
theorem d_H_copy_12 : decode c_H_copy 12 = .ok (.return_, 1) := by decide +kernel
theorem d_H_load_0 : decode c_H_load 0 = .ok (.aload_n 0, 1) := by decide +kernel
theorem d_H_load_1 : decode c_H_load 1 = .ok (.iload_n 2, 1) := by decide +kernel
theorem d_H_load_2 : decode c_H_load 2 = .ok (.aload_n 1, 1) := by decide +kernel
theorem d_H_load_3 : decode c_H_load 3 = .ok (.arraylength, 1) := by decide +kernel
theorem d_H_load_4 : decode c_H_load 4 = .ok (.aload_n 0, 1) := by decide +kernel
theorem d_H_load_5 : decode c_H_load 5 = .ok (.getfield 9, 3) := by decide +kernel
theorem d_H_load_8 : decode c_H_load 8 = .ok (.arraylength, 1) := by decide +kernel
theorem d_H_load_9 : decode c_H_load 9 = .ok (.invokestatic 25, 3) := by decide +kernel
theorem d_H_load_12 : decode c_H_load 12 = .ok (.invokestatic 25, 3) := by decide +kernel
theorem d_H_load_15 : decode c_H_load 15 = .ok (.putfield 15, 3) := by decide +kernel
theorem d_H_load_18 : decode c_H_load 18 = .ok (.aload_n 1, 1) := by decide +kernel
theorem d_H_load_19 : decode c_H_load 19 = .ok (.iconst 0, 1) := by decide +kernel
theorem d_H_load_20 : decode c_H_load 20 = .ok (.aload_n 0, 1) := by decide +kernel
theorem d_H_load_21 : decode c_H_load 21 = .ok (.getfield 9, 3) := by decide +kernel
theorem d_H_load_24 : decode c_H_load 24 = .ok (.iconst 0, 1) := by decide +kernel
theorem d_H_load_25 : decode c_H_load 25 = .ok (.aload_n 0, 1) := by decide +kernel
theorem d_H_load_26 : decode c_H_load 26 = .ok (.getfield 15, 3) := by decide +kernel
theorem d_H_load_29 : decode c_H_load 29 = .ok (.invokestatic 31, 3) := by decide +kernel
theorem d_H_load_32 : decode c_H_load 32 = .ok (.aload_n 0, 1) := by decide +kernel
theorem d_H_load_33 : decode c_H_load 33 = .ok (.invokevirtual 37, 3) := by decide +kernel
theorem d_H_load_36 : decode c_H_load 36 = .ok (.return_, 1) := by decide +kernel
theorem d_H_trim_0 : decode c_H_trim 0 = .ok (.aload_n 0, 1) := by decide +kernel
theorem d_H_trim_1 : decode c_H_trim 1 = .ok (.getfield 15, 3) := by decide +kernel
theorem d_H_trim_4 : decode c_H_trim 4 = .ok (.ifCond .le 30, 3) := by decide +kernel
theorem d_H_trim_7 : decode c_H_trim 7 = .ok (.aload_n 0, 1) := by decide +kernel
theorem d_H_trim_8 : decode c_H_trim 8 = .ok (.getfield 9, 3) := by decide +kernel
theorem d_H_trim_11 : decode c_H_trim 11 = .ok (.aload_n 0, 1) := by decide +kernel
theorem d_H_trim_12 : decode c_H_trim 12 = .ok (.getfield 15, 3) := by decide +kernel
theorem d_H_trim_15 : decode c_H_trim 15 = .ok (.iconst 1, 1) := by decide +kernel
theorem d_H_trim_16 : decode c_H_trim 16 = .ok (.isub, 1) := by decide +kernel
theorem d_H_trim_17 : decode c_H_trim 17 = .ok (.iaload, 1) := by decide +kernel
theorem d_H_trim_18 : decode c_H_trim 18 = .ok (.ifCond .ne 16, 3) := by decide +kernel
theorem d_H_trim_21 : decode c_H_trim 21 = .ok (.aload_n 0, 1) := by decide +kernel
theorem d_H_trim_22 : decode c_H_trim 22 = .ok (.dup, 1) := by decide +kernel
theorem d_H_trim_23 : decode c_H_trim 23 = .ok (.getfield 15, 3) := by decide +kernel
theorem d_H_trim_26 : decode c_H_trim 26 = .ok (.iconst 1, 1) := by decide +kernel
theorem d_H_trim_27 : decode c_H_trim 27 = .ok (.isub, 1) := by decide +kernel
theorem d_H_trim_28 : decode c_H_trim 28 = .ok (.putfield 15, 3) := by decide +kernel
theorem d_H_trim_31 : decode c_H_trim 31 = .ok (.goto (-31), 3) := by decide +kernel
theorem d_H_trim_34 : decode c_H_trim 34 = .ok (.return_, 1) := by decide +kernel
theorem d_H_shrink_0 : decode c_H_shrink 0 = .ok (.lconst 0, 1) := by decide +kernel
theorem d_H_shrink_1 : decode c_H_shrink 1 = .ok (.lstore_n 2, 1) := by decide +kernel
theorem d_H_shrink_2 : decode c_H_shrink 2 = .ok (.aload_n 0, 1) := by decide +kernel
theorem d_H_shrink_3 : decode c_H_shrink 3 = .ok (.getfield 15, 3) := by decide +kernel
theorem d_H_shrink_6 : decode c_H_shrink 6 = .ok (.iconst 1, 1) := by decide +kernel
theorem d_H_shrink_7 : decode c_H_shrink 7 = .ok (.isub, 1) := by decide +kernel
theorem d_H_shrink_8 : decode c_H_shrink 8 = .ok (.istore 4, 2) := by decide +kernel
theorem d_H_shrink_10 : decode c_H_shrink 10 = .ok (.iload 4, 2) := by decide +kernel
theorem d_H_shrink_12 : decode c_H_shrink 12 = .ok (.ifCond .lt 50, 3) := by decide +kernel
theorem d_H_shrink_15 : decode c_H_shrink 15 = .ok (.lload_n 2, 1) := by decide +kernel
theorem d_H_shrink_16 : decode c_H_shrink 16 = .ok (.bipush 30, 2) := by decide +kernel
theorem d_H_shrink_18 : decode c_H_shrink 18 = .ok (.lshl, 1) := by decide +kernel
theorem d_H_shrink_19 : decode c_H_shrink 19 = .ok (.aload_n 0, 1) := by decide +kernel
theorem d_H_shrink_20 : decode c_H_shrink 20 = .ok (.getfield 9, 3) := by decide +kernel
theorem d_H_shrink_23 : decode c_H_shrink 23 = .ok (.iload 4, 2) := by decide +kernel
theorem d_H_shrink_25 : decode c_H_shrink 25 = .ok (.iaload, 1) := by decide +kernel
theorem d_H_shrink_26 : decode c_H_shrink 26 = .ok (.i2l, 1) := by decide +kernel
theorem d_H_shrink_27 : decode c_H_shrink 27 = .ok (.lor, 1) := by decide +kernel
theorem d_H_shrink_28 : decode c_H_shrink 28 = .ok (.lstore 5, 2) := by decide +kernel
theorem d_H_shrink_30 : decode c_H_shrink 30 = .ok (.lload 5, 2) := by decide +kernel
theorem d_H_shrink_32 : decode c_H_shrink 32 = .ok (.iload_n 1, 1) := by decide +kernel
theorem d_H_shrink_33 : decode c_H_shrink 33 = .ok (.i2l, 1) := by decide +kernel
theorem d_H_shrink_34 : decode c_H_shrink 34 = .ok (.ldiv, 1) := by decide +kernel
theorem d_H_shrink_35 : decode c_H_shrink 35 = .ok (.lstore 7, 2) := by decide +kernel
theorem d_H_shrink_37 : decode c_H_shrink 37 = .ok (.aload_n 0, 1) := by decide +kernel
theorem d_H_shrink_38 : decode c_H_shrink 38 = .ok (.getfield 9, 3) := by decide +kernel
theorem d_H_shrink_41 : decode c_H_shrink 41 = .ok (.iload 4, 2) := by decide +kernel
theorem d_H_shrink_43 : decode c_H_shrink 43 = .ok (.lload 7, 2) := by decide +kernel
theorem d_H_shrink_45 : decode c_H_shrink 45 = .ok (.l2i, 1) := by decide +kernel
theorem d_H_shrink_46 : decode c_H_shrink 46 = .ok (.iastore, 1) := by decide +kernel
theorem d_H_shrink_47 : decode c_H_shrink 47 = .ok (.lload 5, 2) := by decide +kernel
theorem d_H_shrink_49 : decode c_H_shrink 49 = .ok (.lload 7, 2) := by decide +kernel
theorem d_H_shrink_51 : decode c_H_shrink 51 = .ok (.iload_n 1, 1) := by decide +kernel
theorem d_H_shrink_52 : decode c_H_shrink 52 = .ok (.i2l, 1) := by decide +kernel
theorem d_H_shrink_53 : decode c_H_shrink 53 = .ok (.lmul, 1) := by decide +kernel
theorem d_H_shrink_54 : decode c_H_shrink 54 = .ok (.lsub, 1) := by decide +kernel
theorem d_H_shrink_55 : decode c_H_shrink 55 = .ok (.lstore_n 2, 1) := by decide +kernel
theorem d_H_shrink_56 : decode c_H_shrink 56 = .ok (.iinc 4 (-1), 3) := by decide +kernel
theorem d_H_shrink_59 : decode c_H_shrink 59 = .ok (.goto (-49), 3) := by decide +kernel
theorem d_H_shrink_62 : decode c_H_shrink 62 = .ok (.aload_n 0, 1) := by decide +kernel
theorem d_H_shrink_63 : decode c_H_shrink 63 = .ok (.invokevirtual 37, 3) := by decide +kernel
theorem d_H_shrink_66 : decode c_H_shrink 66 = .ok (.lload_n 2, 1) := by decide +kernel
theorem d_H_shrink_67 : decode c_H_shrink 67 = .ok (.l2i, 1) := by decide +kernel
theorem d_H_shrink_68 : decode c_H_shrink 68 = .ok (.ireturn, 1) := by decide +kernel
theorem d_H_length_0 : decode c_H_length 0 = .ok (.aload_n 0, 1) := by decide +kernel
theorem d_H_length_1 : decode c_H_length 1 = .ok (.getfield 15, 3) := by decide +kernel
theorem d_H_length_4 : decode c_H_length 4 = .ok (.ifCond .ne 7, 3) := by decide +kernel
theorem d_H_length_7 : decode c_H_length 7 = .ok (.iconst 0, 1) := by decide +kernel
theorem d_H_length_8 : decode c_H_length 8 = .ok (.goto 27, 3) := by decide +kernel
theorem d_H_length_11 : decode c_H_length 11 = .ok (.aload_n 0, 1) := by decide +kernel
theorem d_H_length_12 : decode c_H_length 12 = .ok (.getfield 15, 3) := by decide +kernel
theorem d_H_length_15 : decode c_H_length 15 = .ok (.iconst 1, 1) := by decide +kernel
theorem d_H_length_16 : decode c_H_length 16 = .ok (.isub, 1) := by decide +kernel
theorem d_H_length_17 : decode c_H_length 17 = .ok (.bipush 30, 2) := by decide +kernel
theorem d_H_length_19 : decode c_H_length 19 = .ok (.imul, 1) := by decide +kernel
theorem d_H_length_20 : decode c_H_length 20 = .ok (.aload_n 0, 1) := by decide +kernel
theorem d_H_length_21 : decode c_H_length 21 = .ok (.getfield 9, 3) := by decide +kernel
theorem d_H_length_24 : decode c_H_length 24 = .ok (.aload_n 0, 1) := by decide +kernel
theorem d_H_length_25 : decode c_H_length 25 = .ok (.getfield 15, 3) := by decide +kernel
theorem d_H_length_28 : decode c_H_length 28 = .ok (.iconst 1, 1) := by decide +kernel
theorem d_H_length_29 : decode c_H_length 29 = .ok (.isub, 1) := by decide +kernel
theorem d_H_length_30 : decode c_H_length 30 = .ok (.iaload, 1) := by decide +kernel
theorem d_H_length_31 : decode c_H_length 31 = .ok (.invokestatic 40, 3) := by decide +kernel
theorem d_H_length_34 : decode c_H_length 34 = .ok (.iadd, 1) := by decide +kernel
theorem d_H_length_35 : decode c_H_length 35 = .ok (.ireturn, 1) := by decide +kernel
theorem d_D_bitsOf_0 : decode c_D_bitsOf 0 = .ok (.bipush 32, 2) := by decide +kernel
theorem d_D_bitsOf_2 : decode c_D_bitsOf 2 = .ok (.iload_n 0, 1) := by decide +kernel
theorem d_D_bitsOf_3 : decode c_D_bitsOf 3 = .ok (.invokestatic 202, 3) := by decide +kernel
theorem d_D_bitsOf_6 : decode c_D_bitsOf 6 = .ok (.isub, 1) := by decide +kernel
theorem d_D_bitsOf_7 : decode c_D_bitsOf 7 = .ok (.ireturn, 1) := by decide +kernel
theorem d_JI_numberOfLeadingZeros_0 : decode c_JI_numberOfLeadingZeros 0 = .ok (.iload_n 0, 1) := by decide +kernel
theorem d_JI_numberOfLeadingZeros_1 : decode c_JI_numberOfLeadingZeros 1 = .ok (.ifCond .gt 14, 3) := by decide +kernel
theorem d_JI_numberOfLeadingZeros_4 : decode c_JI_numberOfLeadingZeros 4 = .ok (.iload_n 0, 1) := by decide +kernel
theorem d_JI_numberOfLeadingZeros_5 : decode c_JI_numberOfLeadingZeros 5 = .ok (.ifCond .ne 8, 3) := by decide +kernel
theorem d_JI_numberOfLeadingZeros_8 : decode c_JI_numberOfLeadingZeros 8 = .ok (.bipush 32, 2) := by decide +kernel
theorem d_JI_numberOfLeadingZeros_10 : decode c_JI_numberOfLeadingZeros 10 = .ok (.goto 4, 3) := by decide +kernel
theorem d_JI_numberOfLeadingZeros_13 : decode c_JI_numberOfLeadingZeros 13 = .ok (.iconst 0, 1) := by decide +kernel
theorem d_JI_numberOfLeadingZeros_14 : decode c_JI_numberOfLeadingZeros 14 = .ok (.ireturn, 1) := by decide +kernel
theorem d_JI_numberOfLeadingZeros_15 : decode c_JI_numberOfLeadingZeros 15 = .ok (.bipush 31, 2) := by decide +kernel
theorem d_JI_numberOfLeadingZeros_17 : decode c_JI_numberOfLeadingZeros 17 = .ok (.istore_n 1, 1) := by decide +kernel
theorem d_JI_numberOfLeadingZeros_18 : decode c_JI_numberOfLeadingZeros 18 = .ok (.iload_n 0, 1) := by decide +kernel
theorem d_JI_numberOfLeadingZeros_19 : decode c_JI_numberOfLeadingZeros 19 = .ok (.ldc_w 264, 3) := by decide +kernel
theorem d_JI_numberOfLeadingZeros_22 : decode c_JI_numberOfLeadingZeros 22 = .ok (.if_icmp .lt 11, 3) := by decide +kernel
theorem d_JI_numberOfLeadingZeros_25 : decode c_JI_numberOfLeadingZeros 25 = .ok (.iinc 1 (-16), 3) := by decide +kernel
theorem d_JI_numberOfLeadingZeros_28 : decode c_JI_numberOfLeadingZeros 28 = .ok (.iload_n 0, 1) := by decide +kernel
theorem d_JI_numberOfLeadingZeros_29 : decode c_JI_numberOfLeadingZeros 29 = .ok (.bipush 16, 2) := by decide +kernel
theorem d_JI_numberOfLeadingZeros_31 : decode c_JI_numberOfLeadingZeros 31 = .ok (.iushr, 1) := by decide +kernel
theorem d_JI_numberOfLeadingZeros_32 : decode c_JI_numberOfLeadingZeros 32 = .ok (.istore_n 0, 1) := by decide +kernel
theorem d_JI_numberOfLeadingZeros_33 : decode c_JI_numberOfLeadingZeros 33 = .ok (.iload_n 0, 1) := by decide +kernel
theorem d_JI_numberOfLeadingZeros_34 : decode c_JI_numberOfLeadingZeros 34 = .ok (.sipush 256, 3) := by decide +kernel
theorem d_JI_numberOfLeadingZeros_37 : decode c_JI_numberOfLeadingZeros 37 = .ok (.if_icmp .lt 11, 3) := by decide +kernel
theorem d_JI_numberOfLeadingZeros_40 : decode c_JI_numberOfLeadingZeros 40 = .ok (.iinc 1 (-8), 3) := by decide +kernel
theorem d_JI_numberOfLeadingZeros_43 : decode c_JI_numberOfLeadingZeros 43 = .ok (.iload_n 0, 1) := by decide +kernel
theorem d_JI_numberOfLeadingZeros_44 : decode c_JI_numberOfLeadingZeros 44 = .ok (.bipush 8, 2) := by decide +kernel
theorem d_JI_numberOfLeadingZeros_46 : decode c_JI_numberOfLeadingZeros 46 = .ok (.iushr, 1) := by decide +kernel
theorem d_JI_numberOfLeadingZeros_47 : decode c_JI_numberOfLeadingZeros 47 = .ok (.istore_n 0, 1) := by decide +kernel
theorem d_JI_numberOfLeadingZeros_48 : decode c_JI_numberOfLeadingZeros 48 = .ok (.iload_n 0, 1) := by decide +kernel
theorem d_JI_numberOfLeadingZeros_49 : decode c_JI_numberOfLeadingZeros 49 = .ok (.bipush 16, 2) := by decide +kernel
theorem d_JI_numberOfLeadingZeros_51 : decode c_JI_numberOfLeadingZeros 51 = .ok (.if_icmp .lt 10, 3) := by decide +kernel
theorem d_JI_numberOfLeadingZeros_54 : decode c_JI_numberOfLeadingZeros 54 = .ok (.iinc 1 (-4), 3) := by decide +kernel
theorem d_JI_numberOfLeadingZeros_57 : decode c_JI_numberOfLeadingZeros 57 = .ok (.iload_n 0, 1) := by decide +kernel
theorem d_JI_numberOfLeadingZeros_58 : decode c_JI_numberOfLeadingZeros 58 = .ok (.iconst 4, 1) := by decide +kernel
theorem d_JI_numberOfLeadingZeros_59 : decode c_JI_numberOfLeadingZeros 59 = .ok (.iushr, 1) := by decide +kernel
theorem d_JI_numberOfLeadingZeros_60 : decode c_JI_numberOfLeadingZeros 60 = .ok (.istore_n 0, 1) := by decide +kernel
theorem d_JI_numberOfLeadingZeros_61 : decode c_JI_numberOfLeadingZeros 61 = .ok (.iload_n 0, 1) := by decide +kernel
theorem d_JI_numberOfLeadingZeros_62 : decode c_JI_numberOfLeadingZeros 62 = .ok (.iconst 4, 1) := by decide +kernel
theorem d_JI_numberOfLeadingZeros_63 : decode c_JI_numberOfLeadingZeros 63 = .ok (.if_icmp .lt 10, 3) := by decide +kernel
theorem d_JI_numberOfLeadingZeros_66 : decode c_JI_numberOfLeadingZeros 66 = .ok (.iinc 1 (-2), 3) := by decide +kernel
theorem d_JI_numberOfLeadingZeros_69 : decode c_JI_numberOfLeadingZeros 69 = .ok (.iload_n 0, 1) := by decide +kernel
theorem d_JI_numberOfLeadingZeros_70 : decode c_JI_numberOfLeadingZeros 70 = .ok (.iconst 2, 1) := by decide +kernel
theorem d_JI_numberOfLeadingZeros_71 : decode c_JI_numberOfLeadingZeros 71 = .ok (.iushr, 1) := by decide +kernel
theorem d_JI_numberOfLeadingZeros_72 : decode c_JI_numberOfLeadingZeros 72 = .ok (.istore_n 0, 1) := by decide +kernel
theorem d_JI_numberOfLeadingZeros_73 : decode c_JI_numberOfLeadingZeros 73 = .ok (.iload_n 1, 1) := by decide +kernel
theorem d_JI_numberOfLeadingZeros_74 : decode c_JI_numberOfLeadingZeros 74 = .ok (.iload_n 0, 1) := by decide +kernel
theorem d_JI_numberOfLeadingZeros_75 : decode c_JI_numberOfLeadingZeros 75 = .ok (.iconst 1, 1) := by decide +kernel
theorem d_JI_numberOfLeadingZeros_76 : decode c_JI_numberOfLeadingZeros 76 = .ok (.iushr, 1) := by decide +kernel
theorem d_JI_numberOfLeadingZeros_77 : decode c_JI_numberOfLeadingZeros 77 = .ok (.isub, 1) := by decide +kernel
theorem d_JI_numberOfLeadingZeros_78 : decode c_JI_numberOfLeadingZeros 78 = .ok (.ireturn, 1) := by decide +kernel
theorem d_H_zero_0 : decode c_H_zero 0 = .ok (.aload_n 0, 1) := by decide +kernel
theorem d_H_zero_1 : decode c_H_zero 1 = .ok (.iload_n 1, 1) := by decide +kernel
theorem d_H_zero_2 : decode c_H_zero 2 = .ok (.aload_n 0, 1) := by decide +kernel
theorem d_H_zero_3 : decode c_H_zero 3 = .ok (.getfield 9, 3) := by decide +kernel
theorem d_H_zero_6 : decode c_H_zero 6 = .ok (.arraylength, 1) := by decide +kernel
theorem d_H_zero_7 : decode c_H_zero 7 = .ok (.invokestatic 25, 3) := by decide +kernel
theorem d_H_zero_10 : decode c_H_zero 10 = .ok (.putfield 15, 3) := by decide +kernel
theorem d_H_zero_13 : decode c_H_zero 13 = .ok (.aload_n 0, 1) := by decide +kernel
theorem d_H_zero_14 : decode c_H_zero 14 = .ok (.getfield 9, 3) := by decide +kernel
theorem d_H_zero_17 : decode c_H_zero 17 = .ok (.iconst 0, 1) := by decide +kernel
theorem d_H_zero_18 : decode c_H_zero 18 = .ok (.aload_n 0, 1) := by decide +kernel
theorem d_H_zero_19 : decode c_H_zero 19 = .ok (.getfield 15, 3) := by decide +kernel
theorem d_H_zero_22 : decode c_H_zero 22 = .ok (.iconst 0, 1) := by decide +kernel
theorem d_H_zero_23 : decode c_H_zero 23 = .ok (.invokestatic 69, 3) := by decide +kernel
theorem d_H_zero_26 : decode c_H_zero 26 = .ok (.return_, 1) := by decide +kernel
theorem d_JA_fillI_0 : decode c_JA_fillI 0 = .ok (.aload_n 0, 1) := by decide +kernel
theorem d_JA_fillI_1 : decode c_JA_fillI 1 = .ok (.arraylength, 1) := by decide +kernel
theorem d_JA_fillI_2 : decode c_JA_fillI 2 = .ok (.iload_n 1, 1) := by decide +kernel
theorem d_JA_fillI_3 : decode c_JA_fillI 3 = .ok (.iload_n 2, 1) := by decide +kernel
theorem d_JA_fillI_4 : decode c_JA_fillI 4 = .ok (.invokestatic 13, 3) := by decide +kernel
theorem d_JA_fillI_7 : decode c_JA_fillI 7 = .ok (.iload_n 1, 1) := by decide +kernel
theorem d_JA_fillI_8 : decode c_JA_fillI 8 = .ok (.istore 4, 2) := by decide +kernel
theorem d_JA_fillI_10 : decode c_JA_fillI 10 = .ok (.iload 4, 2) := by decide +kernel
theorem d_JA_fillI_12 : decode c_JA_fillI 12 = .ok (.iload_n 2, 1) := by decide +kernel
theorem d_JA_fillI_13 : decode c_JA_fillI 13 = .ok (.if_icmp .ge 14, 3) := by decide +kernel
theorem d_JA_fillI_16 : decode c_JA_fillI 16 = .ok (.aload_n 0, 1) := by decide +kernel
theorem d_JA_fillI_17 : decode c_JA_fillI 17 = .ok (.iload 4, 2) := by decide +kernel
theorem d_JA_fillI_19 : decode c_JA_fillI 19 = .ok (.iload_n 3, 1) := by decide +kernel
theorem d_JA_fillI_20 : decode c_JA_fillI 20 = .ok (.iastore, 1) := by decide +kernel
theorem d_JA_fillI_21 : decode c_JA_fillI 21 = .ok (.iinc 4 1, 3) := by decide +kernel
theorem d_JA_fillI_24 : decode c_JA_fillI 24 = .ok (.goto (-14), 3) := by decide +kernel
theorem d_JA_fillI_27 : decode c_JA_fillI 27 = .ok (.return_, 1) := by decide +kernel
theorem d_JA_rangeCheck_0 : decode c_JA_rangeCheck 0 = .ok (.iload_n 1, 1) := by decide +kernel
theorem d_JA_rangeCheck_1 : decode c_JA_rangeCheck 1 = .ok (.iload_n 2, 1) := by decide +kernel
theorem d_JA_rangeCheck_2 : decode c_JA_rangeCheck 2 = .ok (.if_icmp .le 44, 3) := by decide +kernel
theorem d_JA_rangeCheck_5 : decode c_JA_rangeCheck 5 = .ok (.new 43, 3) := by decide +kernel
theorem d_JA_rangeCheck_8 : decode c_JA_rangeCheck 8 = .ok (.dup, 1) := by decide +kernel
theorem d_JA_rangeCheck_9 : decode c_JA_rangeCheck 9 = .ok (.new 45, 3) := by decide +kernel
theorem d_JA_rangeCheck_12 : decode c_JA_rangeCheck 12 = .ok (.dup, 1) := by decide +kernel
theorem d_JA_rangeCheck_13 : decode c_JA_rangeCheck 13 = .ok (.invokespecial 47, 3) := by decide +kernel
theorem d_JA_rangeCheck_16 : decode c_JA_rangeCheck 16 = .ok (.ldc 48, 2) := by decide +kernel
theorem d_JA_rangeCheck_18 : decode c_JA_rangeCheck 18 = .ok (.invokevirtual 50, 3) := by decide +kernel
theorem d_JA_rangeCheck_21 : decode c_JA_rangeCheck 21 = .ok (.iload_n 1, 1) := by decide +kernel
theorem d_JA_rangeCheck_22 : decode c_JA_rangeCheck 22 = .ok (.invokevirtual 54, 3) := by decide +kernel
theorem d_JA_rangeCheck_25 : decode c_JA_rangeCheck 25 = .ok (.ldc 57, 2) := by decide +kernel
theorem d_JA_rangeCheck_27 : decode c_JA_rangeCheck 27 = .ok (.invokevirtual 50, 3) := by decide +kernel
theorem d_JA_rangeCheck_30 : decode c_JA_rangeCheck 30 = .ok (.iload_n 2, 1) := by decide +kernel
theorem d_JA_rangeCheck_31 : decode c_JA_rangeCheck 31 = .ok (.invokevirtual 54, 3) := by decide +kernel
theorem d_JA_rangeCheck_34 : decode c_JA_rangeCheck 34 = .ok (.ldc 59, 2) := by decide +kernel
theorem d_JA_rangeCheck_36 : decode c_JA_rangeCheck 36 = .ok (.invokevirtual 50, 3) := by decide +kernel
theorem d_JA_rangeCheck_39 : decode c_JA_rangeCheck 39 = .ok (.invokevirtual 61, 3) := by decide +kernel
theorem d_JA_rangeCheck_42 : decode c_JA_rangeCheck 42 = .ok (.invokespecial 65, 3) := by decide +kernel
theorem d_JA_rangeCheck_45 : decode c_JA_rangeCheck 45 = .ok (.athrow, 1) := by decide +kernel
theorem d_JA_rangeCheck_46 : decode c_JA_rangeCheck 46 = .ok (.iload_n 1, 1) := by decide +kernel
theorem d_JA_rangeCheck_47 : decode c_JA_rangeCheck 47 = .ok (.ifCond .ge 12, 3) := by decide +kernel
theorem d_JA_rangeCheck_50 : decode c_JA_rangeCheck 50 = .ok (.new 68, 3) := by decide +kernel
theorem d_JA_rangeCheck_53 : decode c_JA_rangeCheck 53 = .ok (.dup, 1) := by decide +kernel
theorem d_JA_rangeCheck_54 : decode c_JA_rangeCheck 54 = .ok (.iload_n 1, 1) := by decide +kernel
theorem d_JA_rangeCheck_55 : decode c_JA_rangeCheck 55 = .ok (.invokespecial 70, 3) := by decide +kernel
theorem d_JA_rangeCheck_58 : decode c_JA_rangeCheck 58 = .ok (.athrow, 1) := by decide +kernel
theorem d_JA_rangeCheck_59 : decode c_JA_rangeCheck 59 = .ok (.iload_n 2, 1) := by decide +kernel
theorem d_JA_rangeCheck_60 : decode c_JA_rangeCheck 60 = .ok (.iload_n 0, 1) := by decide +kernel
theorem d_JA_rangeCheck_61 : decode c_JA_rangeCheck 61 = .ok (.if_icmp .le 12, 3) := by decide +kernel
theorem d_JA_rangeCheck_64 : decode c_JA_rangeCheck 64 = .ok (.new 68, 3) := by decide +kernel
theorem d_JA_rangeCheck_67 : decode c_JA_rangeCheck 67 = .ok (.dup, 1) := by decide +kernel
theorem d_JA_rangeCheck_68 : decode c_JA_rangeCheck 68 = .ok (.iload_n 2, 1) := by decide +kernel
theorem d_JA_rangeCheck_69 : decode c_JA_rangeCheck 69 = .ok (.invokespecial 70, 3) := by decide +kernel
theorem d_JA_rangeCheck_72 : decode c_JA_rangeCheck 72 = .ok (.athrow, 1) := by decide +kernel
theorem d_JA_rangeCheck_73 : decode c_JA_rangeCheck 73 = .ok (.return_, 1) := by decide +kernel
theorem d_H_lift_0 : decode c_H_lift 0 = .ok (.iload_n 1, 1) := by decide +kernel
theorem d_H_lift_1 : decode c_H_lift 1 = .ok (.bipush 30, 2) := by decide +kernel
theorem d_H_lift_3 : decode c_H_lift 3 = .ok (.idiv, 1) := by decide +kernel
theorem d_H_lift_4 : decode c_H_lift 4 = .ok (.istore_n 2, 1) := by decide +kernel
theorem d_H_lift_5 : decode c_H_lift 5 = .ok (.aload_n 0, 1) := by decide +kernel
theorem d_H_lift_6 : decode c_H_lift 6 = .ok (.getfield 15, 3) := by decide +kernel
theorem d_H_lift_9 : decode c_H_lift 9 = .ok (.ifCond .le 65, 3) := by decide +kernel
theorem d_H_lift_12 : decode c_H_lift 12 = .ok (.aload_n 0, 1) := by decide +kernel
theorem d_H_lift_13 : decode c_H_lift 13 = .ok (.getfield 15, 3) := by decide +kernel
theorem d_H_lift_16 : decode c_H_lift 16 = .ok (.iload_n 2, 1) := by decide +kernel
theorem d_H_lift_17 : decode c_H_lift 17 = .ok (.iadd, 1) := by decide +kernel
theorem d_H_lift_18 : decode c_H_lift 18 = .ok (.aload_n 0, 1) := by decide +kernel
theorem d_H_lift_19 : decode c_H_lift 19 = .ok (.getfield 9, 3) := by decide +kernel
theorem d_H_lift_22 : decode c_H_lift 22 = .ok (.arraylength, 1) := by decide +kernel
theorem d_H_lift_23 : decode c_H_lift 23 = .ok (.if_icmp .gt 51, 3) := by decide +kernel
theorem d_H_lift_26 : decode c_H_lift 26 = .ok (.aload_n 0, 1) := by decide +kernel
theorem d_H_lift_27 : decode c_H_lift 27 = .ok (.getfield 9, 3) := by decide +kernel
theorem d_H_lift_30 : decode c_H_lift 30 = .ok (.iconst 0, 1) := by decide +kernel
theorem d_H_lift_31 : decode c_H_lift 31 = .ok (.aload_n 0, 1) := by decide +kernel
theorem d_H_lift_32 : decode c_H_lift 32 = .ok (.getfield 9, 3) := by decide +kernel
theorem d_H_lift_35 : decode c_H_lift 35 = .ok (.iload_n 2, 1) := by decide +kernel
theorem d_H_lift_36 : decode c_H_lift 36 = .ok (.aload_n 0, 1) := by decide +kernel
theorem d_H_lift_37 : decode c_H_lift 37 = .ok (.getfield 15, 3) := by decide +kernel
theorem d_H_lift_40 : decode c_H_lift 40 = .ok (.invokestatic 31, 3) := by decide +kernel
theorem d_H_lift_43 : decode c_H_lift 43 = .ok (.aload_n 0, 1) := by decide +kernel
theorem d_H_lift_44 : decode c_H_lift 44 = .ok (.getfield 9, 3) := by decide +kernel
theorem d_H_lift_47 : decode c_H_lift 47 = .ok (.iconst 0, 1) := by decide +kernel
theorem d_H_lift_48 : decode c_H_lift 48 = .ok (.iload_n 2, 1) := by decide +kernel
theorem d_H_lift_49 : decode c_H_lift 49 = .ok (.iconst 0, 1) := by decide +kernel
theorem d_H_lift_50 : decode c_H_lift 50 = .ok (.invokestatic 69, 3) := by decide +kernel
theorem d_H_lift_53 : decode c_H_lift 53 = .ok (.aload_n 0, 1) := by decide +kernel
theorem d_H_lift_54 : decode c_H_lift 54 = .ok (.dup, 1) := by decide +kernel
theorem d_H_lift_55 : decode c_H_lift 55 = .ok (.getfield 15, 3) := by decide +kernel
theorem d_H_lift_58 : decode c_H_lift 58 = .ok (.iload_n 2, 1) := by decide +kernel
theorem d_H_lift_59 : decode c_H_lift 59 = .ok (.iadd, 1) := by decide +kernel
theorem d_H_lift_60 : decode c_H_lift 60 = .ok (.putfield 15, 3) := by decide +kernel
theorem d_H_lift_63 : decode c_H_lift 63 = .ok (.aload_n 0, 1) := by decide +kernel
theorem d_H_lift_64 : decode c_H_lift 64 = .ok (.iconst 1, 1) := by decide +kernel
theorem d_H_lift_65 : decode c_H_lift 65 = .ok (.iload_n 1, 1) := by decide +kernel
theorem d_H_lift_66 : decode c_H_lift 66 = .ok (.bipush 30, 2) := by decide +kernel
theorem d_H_lift_68 : decode c_H_lift 68 = .ok (.irem, 1) := by decide +kernel
theorem d_H_lift_69 : decode c_H_lift 69 = .ok (.ishl, 1) := by decide +kernel
theorem d_H_lift_70 : decode c_H_lift 70 = .ok (.iconst 0, 1) := by decide +kernel
theorem d_H_lift_71 : decode c_H_lift 71 = .ok (.invokevirtual 62, 3) := by decide +kernel
theorem d_H_lift_74 : decode c_H_lift 74 = .ok (.return_, 1) := by decide +kernel
theorem d_H_scale_0 : decode c_H_scale 0 = .ok (.iload_n 2, 1) := by decide +kernel
theorem d_H_scale_1 : decode c_H_scale 1 = .ok (.i2l, 1) := by decide +kernel
theorem d_H_scale_2 : decode c_H_scale 2 = .ok (.lstore_n 3, 1) := by decide +kernel
theorem d_H_scale_3 : decode c_H_scale 3 = .ok (.iconst 0, 1) := by decide +kernel
theorem d_H_scale_4 : decode c_H_scale 4 = .ok (.istore 5, 2) := by decide +kernel
theorem d_H_scale_6 : decode c_H_scale 6 = .ok (.iload 5, 2) := by decide +kernel
theorem d_H_scale_8 : decode c_H_scale 8 = .ok (.aload_n 0, 1) := by decide +kernel
theorem d_H_scale_9 : decode c_H_scale 9 = .ok (.getfield 15, 3) := by decide +kernel
theorem d_H_scale_12 : decode c_H_scale 12 = .ok (.if_icmp .ge 41, 3) := by decide +kernel
theorem d_H_scale_15 : decode c_H_scale 15 = .ok (.lload_n 3, 1) := by decide +kernel
theorem d_H_scale_16 : decode c_H_scale 16 = .ok (.aload_n 0, 1) := by decide +kernel
theorem d_H_scale_17 : decode c_H_scale 17 = .ok (.getfield 9, 3) := by decide +kernel
theorem d_H_scale_20 : decode c_H_scale 20 = .ok (.iload 5, 2) := by decide +kernel
theorem d_H_scale_22 : decode c_H_scale 22 = .ok (.iaload, 1) := by decide +kernel
theorem d_H_scale_23 : decode c_H_scale 23 = .ok (.i2l, 1) := by decide +kernel
theorem d_H_scale_24 : decode c_H_scale 24 = .ok (.iload_n 1, 1) := by decide +kernel
theorem d_H_scale_25 : decode c_H_scale 25 = .ok (.i2l, 1) := by decide +kernel
theorem d_H_scale_26 : decode c_H_scale 26 = .ok (.lmul, 1) := by decide +kernel
theorem d_H_scale_27 : decode c_H_scale 27 = .ok (.ladd, 1) := by decide +kernel
theorem d_H_scale_28 : decode c_H_scale 28 = .ok (.lstore_n 3, 1) := by decide +kernel
theorem d_H_scale_29 : decode c_H_scale 29 = .ok (.aload_n 0, 1) := by decide +kernel
theorem d_H_scale_30 : decode c_H_scale 30 = .ok (.getfield 9, 3) := by decide +kernel
theorem d_H_scale_33 : decode c_H_scale 33 = .ok (.iload 5, 2) := by decide +kernel
theorem d_H_scale_35 : decode c_H_scale 35 = .ok (.lload_n 3, 1) := by decide +kernel
theorem d_H_scale_36 : decode c_H_scale 36 = .ok (.ldc2_w 19, 3) := by decide +kernel
theorem d_H_scale_39 : decode c_H_scale 39 = .ok (.land, 1) := by decide +kernel
theorem d_H_scale_40 : decode c_H_scale 40 = .ok (.l2i, 1) := by decide +kernel
theorem d_H_scale_41 : decode c_H_scale 41 = .ok (.iastore, 1) := by decide +kernel
theorem d_H_scale_42 : decode c_H_scale 42 = .ok (.lload_n 3, 1) := by decide +kernel
theorem d_H_scale_43 : decode c_H_scale 43 = .ok (.bipush 30, 2) := by decide +kernel
theorem d_H_scale_45 : decode c_H_scale 45 = .ok (.lshr, 1) := by decide +kernel
theorem d_H_scale_46 : decode c_H_scale 46 = .ok (.lstore_n 3, 1) := by decide +kernel
theorem d_H_scale_47 : decode c_H_scale 47 = .ok (.iinc 5 1, 3) := by decide +kernel
theorem d_H_scale_50 : decode c_H_scale 50 = .ok (.goto (-44), 3) := by decide +kernel
theorem d_H_scale_53 : decode c_H_scale 53 = .ok (.aload_n 0, 1) := by decide +kernel
theorem d_H_scale_54 : decode c_H_scale 54 = .ok (.lload_n 3, 1) := by decide +kernel
theorem d_H_scale_55 : decode c_H_scale 55 = .ok (.l2i, 1) := by decide +kernel
theorem d_H_scale_56 : decode c_H_scale 56 = .ok (.invokevirtual 51, 3) := by decide +kernel
theorem d_H_scale_59 : decode c_H_scale 59 = .ok (.return_, 1) := by decide +kernel
theorem d_H_append_0 : decode c_H_append 0 = .ok (.iload_n 1, 1) := by decide +kernel
theorem d_H_append_1 : decode c_H_append 1 = .ok (.ifCond .eq 35, 3) := by decide +kernel
theorem d_H_append_4 : decode c_H_append 4 = .ok (.aload_n 0, 1) := by decide +kernel
theorem d_H_append_5 : decode c_H_append 5 = .ok (.getfield 15, 3) := by decide +kernel
theorem d_H_append_8 : decode c_H_append 8 = .ok (.aload_n 0, 1) := by decide +kernel
theorem d_H_append_9 : decode c_H_append 9 = .ok (.getfield 9, 3) := by decide +kernel
theorem d_H_append_12 : decode c_H_append 12 = .ok (.arraylength, 1) := by decide +kernel
theorem d_H_append_13 : decode c_H_append 13 = .ok (.if_icmp .ge 23, 3) := by decide +kernel
theorem d_H_append_16 : decode c_H_append 16 = .ok (.aload_n 0, 1) := by decide +kernel
theorem d_H_append_17 : decode c_H_append 17 = .ok (.getfield 9, 3) := by decide +kernel
theorem d_H_append_20 : decode c_H_append 20 = .ok (.aload_n 0, 1) := by decide +kernel
theorem d_H_append_21 : decode c_H_append 21 = .ok (.getfield 15, 3) := by decide +kernel
theorem d_H_append_24 : decode c_H_append 24 = .ok (.iload_n 1, 1) := by decide +kernel
theorem d_H_append_25 : decode c_H_append 25 = .ok (.iastore, 1) := by decide +kernel
theorem d_H_append_26 : decode c_H_append 26 = .ok (.aload_n 0, 1) := by decide +kernel
theorem d_H_append_27 : decode c_H_append 27 = .ok (.dup, 1) := by decide +kernel
theorem d_H_append_28 : decode c_H_append 28 = .ok (.getfield 15, 3) := by decide +kernel
theorem d_H_append_31 : decode c_H_append 31 = .ok (.iconst 1, 1) := by decide +kernel
theorem d_H_append_32 : decode c_H_append 32 = .ok (.iadd, 1) := by decide +kernel
theorem d_H_append_33 : decode c_H_append 33 = .ok (.putfield 15, 3) := by decide +kernel
theorem d_H_append_36 : decode c_H_append 36 = .ok (.return_, 1) := by decide +kernel
theorem d_H_takeAway_0 : decode c_H_takeAway 0 = .ok (.lconst 0, 1) := by decide +kernel
theorem d_H_takeAway_1 : decode c_H_takeAway 1 = .ok (.lstore 7, 2) := by decide +kernel
theorem d_H_takeAway_3 : decode c_H_takeAway 3 = .ok (.iload_n 1, 1) := by decide +kernel
theorem d_H_takeAway_4 : decode c_H_takeAway 4 = .ok (.iload 4, 2) := by decide +kernel
theorem d_H_takeAway_6 : decode c_H_takeAway 6 = .ok (.iadd, 1) := by decide +kernel
theorem d_H_takeAway_7 : decode c_H_takeAway 7 = .ok (.aload_n 0, 1) := by decide +kernel
theorem d_H_takeAway_8 : decode c_H_takeAway 8 = .ok (.getfield 9, 3) := by decide +kernel
theorem d_H_takeAway_11 : decode c_H_takeAway 11 = .ok (.arraylength, 1) := by decide +kernel
theorem d_H_takeAway_12 : decode c_H_takeAway 12 = .ok (.if_icmp .ge 15, 3) := by decide +kernel
theorem d_H_takeAway_15 : decode c_H_takeAway 15 = .ok (.iload_n 3, 1) := by decide +kernel
theorem d_H_takeAway_16 : decode c_H_takeAway 16 = .ok (.iload 4, 2) := by decide +kernel
theorem d_H_takeAway_18 : decode c_H_takeAway 18 = .ok (.iadd, 1) := by decide +kernel
theorem d_H_takeAway_19 : decode c_H_takeAway 19 = .ok (.aload_n 2, 1) := by decide +kernel
theorem d_H_takeAway_20 : decode c_H_takeAway 20 = .ok (.getfield 9, 3) := by decide +kernel
theorem d_H_takeAway_23 : decode c_H_takeAway 23 = .ok (.arraylength, 1) := by decide +kernel
theorem d_H_takeAway_24 : decode c_H_takeAway 24 = .ok (.if_icmp .le 5, 3) := by decide +kernel
theorem d_H_takeAway_27 : decode c_H_takeAway 27 = .ok (.iconst 0, 1) := by decide +kernel
theorem d_H_takeAway_28 : decode c_H_takeAway 28 = .ok (.ireturn, 1) := by decide +kernel
theorem d_H_takeAway_29 : decode c_H_takeAway 29 = .ok (.iconst 0, 1) := by decide +kernel
theorem d_H_takeAway_30 : decode c_H_takeAway 30 = .ok (.istore 9, 2) := by decide +kernel
theorem d_H_takeAway_32 : decode c_H_takeAway 32 = .ok (.iload 9, 2) := by decide +kernel
theorem d_H_takeAway_34 : decode c_H_takeAway 34 = .ok (.iload 4, 2) := by decide +kernel
theorem d_H_takeAway_36 : decode c_H_takeAway 36 = .ok (.if_icmp .ge 61, 3) := by decide +kernel
theorem d_H_takeAway_39 : decode c_H_takeAway 39 = .ok (.lload 7, 2) := by decide +kernel
theorem d_H_takeAway_41 : decode c_H_takeAway 41 = .ok (.aload_n 0, 1) := by decide +kernel
theorem d_H_takeAway_42 : decode c_H_takeAway 42 = .ok (.getfield 9, 3) := by decide +kernel
theorem d_H_takeAway_45 : decode c_H_takeAway 45 = .ok (.iload_n 1, 1) := by decide +kernel
theorem d_H_takeAway_46 : decode c_H_takeAway 46 = .ok (.iload 9, 2) := by decide +kernel
theorem d_H_takeAway_48 : decode c_H_takeAway 48 = .ok (.iadd, 1) := by decide +kernel
theorem d_H_takeAway_49 : decode c_H_takeAway 49 = .ok (.iaload, 1) := by decide +kernel
theorem d_H_takeAway_50 : decode c_H_takeAway 50 = .ok (.i2l, 1) := by decide +kernel
theorem d_H_takeAway_51 : decode c_H_takeAway 51 = .ok (.lload 5, 2) := by decide +kernel
theorem d_H_takeAway_53 : decode c_H_takeAway 53 = .ok (.aload_n 2, 1) := by decide +kernel
theorem d_H_takeAway_54 : decode c_H_takeAway 54 = .ok (.getfield 9, 3) := by decide +kernel
theorem d_H_takeAway_57 : decode c_H_takeAway 57 = .ok (.iload_n 3, 1) := by decide +kernel
theorem d_H_takeAway_58 : decode c_H_takeAway 58 = .ok (.iload 9, 2) := by decide +kernel
theorem d_H_takeAway_60 : decode c_H_takeAway 60 = .ok (.iadd, 1) := by decide +kernel
theorem d_H_takeAway_61 : decode c_H_takeAway 61 = .ok (.iaload, 1) := by decide +kernel
theorem d_H_takeAway_62 : decode c_H_takeAway 62 = .ok (.i2l, 1) := by decide +kernel
theorem d_H_takeAway_63 : decode c_H_takeAway 63 = .ok (.lmul, 1) := by decide +kernel
theorem d_H_takeAway_64 : decode c_H_takeAway 64 = .ok (.lsub, 1) := by decide +kernel
theorem d_H_takeAway_65 : decode c_H_takeAway 65 = .ok (.ladd, 1) := by decide +kernel
theorem d_H_takeAway_66 : decode c_H_takeAway 66 = .ok (.lstore 7, 2) := by decide +kernel
theorem d_H_takeAway_68 : decode c_H_takeAway 68 = .ok (.aload_n 0, 1) := by decide +kernel
theorem d_H_takeAway_69 : decode c_H_takeAway 69 = .ok (.getfield 9, 3) := by decide +kernel
theorem d_H_takeAway_72 : decode c_H_takeAway 72 = .ok (.iload_n 1, 1) := by decide +kernel
theorem d_H_takeAway_73 : decode c_H_takeAway 73 = .ok (.iload 9, 2) := by decide +kernel
theorem d_H_takeAway_75 : decode c_H_takeAway 75 = .ok (.iadd, 1) := by decide +kernel
theorem d_H_takeAway_76 : decode c_H_takeAway 76 = .ok (.lload 7, 2) := by decide +kernel
theorem d_H_takeAway_78 : decode c_H_takeAway 78 = .ok (.ldc2_w 19, 3) := by decide +kernel
theorem d_H_takeAway_81 : decode c_H_takeAway 81 = .ok (.land, 1) := by decide +kernel
theorem d_H_takeAway_82 : decode c_H_takeAway 82 = .ok (.l2i, 1) := by decide +kernel
theorem d_H_takeAway_83 : decode c_H_takeAway 83 = .ok (.iastore, 1) := by decide +kernel
theorem d_H_takeAway_84 : decode c_H_takeAway 84 = .ok (.lload 7, 2) := by decide +kernel
theorem d_H_takeAway_86 : decode c_H_takeAway 86 = .ok (.bipush 30, 2) := by decide +kernel
theorem d_H_takeAway_88 : decode c_H_takeAway 88 = .ok (.lshr, 1) := by decide +kernel
theorem d_H_takeAway_89 : decode c_H_takeAway 89 = .ok (.lstore 7, 2) := by decide +kernel
theorem d_H_takeAway_91 : decode c_H_takeAway 91 = .ok (.iinc 9 1, 3) := by decide +kernel
theorem d_H_takeAway_94 : decode c_H_takeAway 94 = .ok (.goto (-62), 3) := by decide +kernel
theorem d_H_takeAway_97 : decode c_H_takeAway 97 = .ok (.lload 7, 2) := by decide +kernel
theorem d_H_takeAway_99 : decode c_H_takeAway 99 = .ok (.aload_n 0, 1) := by decide +kernel
theorem d_H_takeAway_100 : decode c_H_takeAway 100 = .ok (.getfield 9, 3) := by decide +kernel
theorem d_H_takeAway_103 : decode c_H_takeAway 103 = .ok (.iload_n 1, 1) := by decide +kernel
theorem d_H_takeAway_104 : decode c_H_takeAway 104 = .ok (.iload 4, 2) := by decide +kernel
theorem d_H_takeAway_106 : decode c_H_takeAway 106 = .ok (.iadd, 1) := by decide +kernel
theorem d_H_takeAway_107 : decode c_H_takeAway 107 = .ok (.iaload, 1) := by decide +kernel
theorem d_H_takeAway_108 : decode c_H_takeAway 108 = .ok (.i2l, 1) := by decide +kernel
theorem d_H_takeAway_109 : decode c_H_takeAway 109 = .ok (.ladd, 1) := by decide +kernel
theorem d_H_takeAway_110 : decode c_H_takeAway 110 = .ok (.lstore 7, 2) := by decide +kernel
theorem d_H_takeAway_112 : decode c_H_takeAway 112 = .ok (.aload_n 0, 1) := by decide +kernel
theorem d_H_takeAway_113 : decode c_H_takeAway 113 = .ok (.getfield 9, 3) := by decide +kernel
theorem d_H_takeAway_116 : decode c_H_takeAway 116 = .ok (.iload_n 1, 1) := by decide +kernel
theorem d_H_takeAway_117 : decode c_H_takeAway 117 = .ok (.iload 4, 2) := by decide +kernel
theorem d_H_takeAway_119 : decode c_H_takeAway 119 = .ok (.iadd, 1) := by decide +kernel
theorem d_H_takeAway_120 : decode c_H_takeAway 120 = .ok (.lload 7, 2) := by decide +kernel
theorem d_H_takeAway_122 : decode c_H_takeAway 122 = .ok (.ldc2_w 19, 3) := by decide +kernel
theorem d_H_takeAway_125 : decode c_H_takeAway 125 = .ok (.land, 1) := by decide +kernel
theorem d_H_takeAway_126 : decode c_H_takeAway 126 = .ok (.l2i, 1) := by decide +kernel
theorem d_H_takeAway_127 : decode c_H_takeAway 127 = .ok (.iastore, 1) := by decide +kernel
theorem d_H_takeAway_128 : decode c_H_takeAway 128 = .ok (.lload 7, 2) := by decide +kernel
theorem d_H_takeAway_130 : decode c_H_takeAway 130 = .ok (.bipush 30, 2) := by decide +kernel
theorem d_H_takeAway_132 : decode c_H_takeAway 132 = .ok (.lshr, 1) := by decide +kernel
theorem d_H_takeAway_133 : decode c_H_takeAway 133 = .ok (.l2i, 1) := by decide +kernel
theorem d_H_takeAway_134 : decode c_H_takeAway 134 = .ok (.ireturn, 1) := by decide +kernel
theorem d_H_lower_0 : decode c_H_lower 0 = .ok (.aload_n 0, 1) := by decide +kernel
theorem d_H_lower_1 : decode c_H_lower 1 = .ok (.iload_n 1, 1) := by decide +kernel
theorem d_H_lower_2 : decode c_H_lower 2 = .ok (.bipush 30, 2) := by decide +kernel
theorem d_H_lower_4 : decode c_H_lower 4 = .ok (.idiv, 1) := by decide +kernel
theorem d_H_lower_5 : decode c_H_lower 5 = .ok (.invokevirtual 75, 3) := by decide +kernel
theorem d_H_lower_8 : decode c_H_lower 8 = .ok (.aload_n 0, 1) := by decide +kernel
theorem d_H_lower_9 : decode c_H_lower 9 = .ok (.iconst 1, 1) := by decide +kernel
theorem d_H_lower_10 : decode c_H_lower 10 = .ok (.iload_n 1, 1) := by decide +kernel
theorem d_H_lower_11 : decode c_H_lower 11 = .ok (.bipush 30, 2) := by decide +kernel
theorem d_H_lower_13 : decode c_H_lower 13 = .ok (.irem, 1) := by decide +kernel
theorem d_H_lower_14 : decode c_H_lower 14 = .ok (.ishl, 1) := by decide +kernel
theorem d_H_lower_15 : decode c_H_lower 15 = .ok (.invokevirtual 78, 3) := by decide +kernel
theorem d_H_lower_18 : decode c_H_lower 18 = .ok (.pop, 1) := by decide +kernel
theorem d_H_lower_19 : decode c_H_lower 19 = .ok (.return_, 1) := by decide +kernel
theorem d_H_drop_0 : decode c_H_drop 0 = .ok (.iconst 0, 1) := by decide +kernel
theorem d_H_drop_1 : decode c_H_drop 1 = .ok (.aload_n 0, 1) := by decide +kernel
theorem d_H_drop_2 : decode c_H_drop 2 = .ok (.getfield 15, 3) := by decide +kernel
theorem d_H_drop_5 : decode c_H_drop 5 = .ok (.iload_n 1, 1) := by decide +kernel
theorem d_H_drop_6 : decode c_H_drop 6 = .ok (.isub, 1) := by decide +kernel
theorem d_H_drop_7 : decode c_H_drop 7 = .ok (.invokestatic 44, 3) := by decide +kernel
theorem d_H_drop_10 : decode c_H_drop 10 = .ok (.istore_n 2, 1) := by decide +kernel
theorem d_H_drop_11 : decode c_H_drop 11 = .ok (.aload_n 0, 1) := by decide +kernel
theorem d_H_drop_12 : decode c_H_drop 12 = .ok (.getfield 9, 3) := by decide +kernel
theorem d_H_drop_15 : decode c_H_drop 15 = .ok (.aload_n 0, 1) := by decide +kernel
theorem d_H_drop_16 : decode c_H_drop 16 = .ok (.getfield 15, 3) := by decide +kernel
theorem d_H_drop_19 : decode c_H_drop 19 = .ok (.iload_n 2, 1) := by decide +kernel
theorem d_H_drop_20 : decode c_H_drop 20 = .ok (.isub, 1) := by decide +kernel
theorem d_H_drop_21 : decode c_H_drop 21 = .ok (.aload_n 0, 1) := by decide +kernel
theorem d_H_drop_22 : decode c_H_drop 22 = .ok (.getfield 9, 3) := by decide +kernel
theorem d_H_drop_25 : decode c_H_drop 25 = .ok (.iconst 0, 1) := by decide +kernel
theorem d_H_drop_26 : decode c_H_drop 26 = .ok (.iload_n 2, 1) := by decide +kernel
theorem d_H_drop_27 : decode c_H_drop 27 = .ok (.invokestatic 31, 3) := by decide +kernel
theorem d_H_drop_30 : decode c_H_drop 30 = .ok (.aload_n 0, 1) := by decide +kernel
theorem d_H_drop_31 : decode c_H_drop 31 = .ok (.iload_n 2, 1) := by decide +kernel
theorem d_H_drop_32 : decode c_H_drop 32 = .ok (.putfield 15, 3) := by decide +kernel
theorem d_H_drop_35 : decode c_H_drop 35 = .ok (.return_, 1) := by decide +kernel
theorem d_H_order_0 : decode c_H_order 0 = .ok (.aload_n 0, 1) := by decide +kernel
theorem d_H_order_1 : decode c_H_order 1 = .ok (.getfield 15, 3) := by decide +kernel
theorem d_H_order_4 : decode c_H_order 4 = .ok (.aload_n 1, 1) := by decide +kernel
theorem d_H_order_5 : decode c_H_order 5 = .ok (.getfield 15, 3) := by decide +kernel
theorem d_H_order_8 : decode c_H_order 8 = .ok (.if_icmp .eq 20, 3) := by decide +kernel
theorem d_H_order_11 : decode c_H_order 11 = .ok (.aload_n 0, 1) := by decide +kernel
theorem d_H_order_12 : decode c_H_order 12 = .ok (.getfield 15, 3) := by decide +kernel
theorem d_H_order_15 : decode c_H_order 15 = .ok (.aload_n 1, 1) := by decide +kernel
theorem d_H_order_16 : decode c_H_order 16 = .ok (.getfield 15, 3) := by decide +kernel
theorem d_H_order_19 : decode c_H_order 19 = .ok (.if_icmp .ge 7, 3) := by decide +kernel
theorem d_H_order_22 : decode c_H_order 22 = .ok (.iconst (-1), 1) := by decide +kernel
theorem d_H_order_23 : decode c_H_order 23 = .ok (.goto 4, 3) := by decide +kernel
theorem d_H_order_26 : decode c_H_order 26 = .ok (.iconst 1, 1) := by decide +kernel
theorem d_H_order_27 : decode c_H_order 27 = .ok (.ireturn, 1) := by decide +kernel
theorem d_H_order_28 : decode c_H_order 28 = .ok (.aload_n 0, 1) := by decide +kernel
theorem d_H_order_29 : decode c_H_order 29 = .ok (.getfield 15, 3) := by decide +kernel
theorem d_H_order_32 : decode c_H_order 32 = .ok (.iconst 1, 1) := by decide +kernel
theorem d_H_order_33 : decode c_H_order 33 = .ok (.isub, 1) := by decide +kernel
theorem d_H_order_34 : decode c_H_order 34 = .ok (.istore_n 2, 1) := by decide +kernel
theorem d_H_order_35 : decode c_H_order 35 = .ok (.iload_n 2, 1) := by decide +kernel
theorem d_H_order_36 : decode c_H_order 36 = .ok (.ifCond .lt 45, 3) := by decide +kernel
theorem d_H_order_39 : decode c_H_order 39 = .ok (.aload_n 0, 1) := by decide +kernel
theorem d_H_order_40 : decode c_H_order 40 = .ok (.getfield 9, 3) := by decide +kernel
theorem d_H_order_43 : decode c_H_order 43 = .ok (.iload_n 2, 1) := by decide +kernel
theorem d_H_order_44 : decode c_H_order 44 = .ok (.iaload, 1) := by decide +kernel
theorem d_H_order_45 : decode c_H_order 45 = .ok (.aload_n 1, 1) := by decide +kernel
theorem d_H_order_46 : decode c_H_order 46 = .ok (.getfield 9, 3) := by decide +kernel
theorem d_H_order_49 : decode c_H_order 49 = .ok (.iload_n 2, 1) := by decide +kernel
theorem d_H_order_50 : decode c_H_order 50 = .ok (.iaload, 1) := by decide +kernel
theorem d_H_order_51 : decode c_H_order 51 = .ok (.if_icmp .eq 24, 3) := by decide +kernel
theorem d_H_order_54 : decode c_H_order 54 = .ok (.aload_n 0, 1) := by decide +kernel
theorem d_H_order_55 : decode c_H_order 55 = .ok (.getfield 9, 3) := by decide +kernel
theorem d_H_order_58 : decode c_H_order 58 = .ok (.iload_n 2, 1) := by decide +kernel
theorem d_H_order_59 : decode c_H_order 59 = .ok (.iaload, 1) := by decide +kernel
theorem d_H_order_60 : decode c_H_order 60 = .ok (.aload_n 1, 1) := by decide +kernel
theorem d_H_order_61 : decode c_H_order 61 = .ok (.getfield 9, 3) := by decide +kernel
theorem d_H_order_64 : decode c_H_order 64 = .ok (.iload_n 2, 1) := by decide +kernel
theorem d_H_order_65 : decode c_H_order 65 = .ok (.iaload, 1) := by decide +kernel
theorem d_H_order_66 : decode c_H_order 66 = .ok (.if_icmp .ge 7, 3) := by decide +kernel
theorem d_H_order_69 : decode c_H_order 69 = .ok (.iconst (-1), 1) := by decide +kernel
theorem d_H_order_70 : decode c_H_order 70 = .ok (.goto 4, 3) := by decide +kernel
theorem d_H_order_73 : decode c_H_order 73 = .ok (.iconst 1, 1) := by decide +kernel
theorem d_H_order_74 : decode c_H_order 74 = .ok (.ireturn, 1) := by decide +kernel
theorem d_H_order_75 : decode c_H_order 75 = .ok (.iinc 2 (-1), 3) := by decide +kernel
theorem d_H_order_78 : decode c_H_order 78 = .ok (.goto (-43), 3) := by decide +kernel
theorem d_H_order_81 : decode c_H_order 81 = .ok (.iconst 0, 1) := by decide +kernel
theorem d_H_order_82 : decode c_H_order 82 = .ok (.ireturn, 1) := by decide +kernel
theorem d_D_bitsPerDigit_0 : decode c_D_bitsPerDigit 0 = .ok (.iload_n 0, 1) := by decide +kernel
theorem d_D_bitsPerDigit_1 : decode c_D_bitsPerDigit 1 = .ok (.iconst 1, 1) := by decide +kernel
theorem d_D_bitsPerDigit_2 : decode c_D_bitsPerDigit 2 = .ok (.isub, 1) := by decide +kernel
theorem d_D_bitsPerDigit_3 : decode c_D_bitsPerDigit 3 = .ok (.invokestatic 199, 3) := by decide +kernel
theorem d_D_bitsPerDigit_6 : decode c_D_bitsPerDigit 6 = .ok (.ireturn, 1) := by decide +kernel
theorem d_H_assign_0 : decode c_H_assign 0 = .ok (.aload_n 0, 1) := by decide +kernel
theorem d_H_assign_1 : decode c_H_assign 1 = .ok (.iconst 0, 1) := by decide +kernel
theorem d_H_assign_2 : decode c_H_assign 2 = .ok (.putfield 15, 3) := by decide +kernel
theorem d_H_assign_5 : decode c_H_assign 5 = .ok (.lload_n 1, 1) := by decide +kernel
theorem d_H_assign_6 : decode c_H_assign 6 = .ok (.lstore_n 3, 1) := by decide +kernel
theorem d_H_assign_7 : decode c_H_assign 7 = .ok (.lload_n 3, 1) := by decide +kernel
theorem d_H_assign_8 : decode c_H_assign 8 = .ok (.lconst 0, 1) := by decide +kernel
theorem d_H_assign_9 : decode c_H_assign 9 = .ok (.lcmp, 1) := by decide +kernel
theorem d_H_assign_10 : decode c_H_assign 10 = .ok (.ifCond .le 48, 3) := by decide +kernel
theorem d_H_assign_13 : decode c_H_assign 13 = .ok (.aload_n 0, 1) := by decide +kernel
theorem d_H_assign_14 : decode c_H_assign 14 = .ok (.getfield 15, 3) := by decide +kernel
theorem d_H_assign_17 : decode c_H_assign 17 = .ok (.aload_n 0, 1) := by decide +kernel
theorem d_H_assign_18 : decode c_H_assign 18 = .ok (.getfield 9, 3) := by decide +kernel
theorem d_H_assign_21 : decode c_H_assign 21 = .ok (.arraylength, 1) := by decide +kernel
theorem d_H_assign_22 : decode c_H_assign 22 = .ok (.if_icmp .ge 36, 3) := by decide +kernel
theorem d_H_assign_25 : decode c_H_assign 25 = .ok (.aload_n 0, 1) := by decide +kernel
theorem d_H_assign_26 : decode c_H_assign 26 = .ok (.getfield 9, 3) := by decide +kernel
theorem d_H_assign_29 : decode c_H_assign 29 = .ok (.aload_n 0, 1) := by decide +kernel
theorem d_H_assign_30 : decode c_H_assign 30 = .ok (.getfield 15, 3) := by decide +kernel
theorem d_H_assign_33 : decode c_H_assign 33 = .ok (.lload_n 3, 1) := by decide +kernel
theorem d_H_assign_34 : decode c_H_assign 34 = .ok (.ldc2_w 19, 3) := by decide +kernel
theorem d_H_assign_37 : decode c_H_assign 37 = .ok (.land, 1) := by decide +kernel
theorem d_H_assign_38 : decode c_H_assign 38 = .ok (.l2i, 1) := by decide +kernel
theorem d_H_assign_39 : decode c_H_assign 39 = .ok (.iastore, 1) := by decide +kernel
theorem d_H_assign_40 : decode c_H_assign 40 = .ok (.aload_n 0, 1) := by decide +kernel
theorem d_H_assign_41 : decode c_H_assign 41 = .ok (.dup, 1) := by decide +kernel
theorem d_H_assign_42 : decode c_H_assign 42 = .ok (.getfield 15, 3) := by decide +kernel
theorem d_H_assign_45 : decode c_H_assign 45 = .ok (.iconst 1, 1) := by decide +kernel
theorem d_H_assign_46 : decode c_H_assign 46 = .ok (.iadd, 1) := by decide +kernel
theorem d_H_assign_47 : decode c_H_assign 47 = .ok (.putfield 15, 3) := by decide +kernel
theorem d_H_assign_50 : decode c_H_assign 50 = .ok (.lload_n 3, 1) := by decide +kernel
theorem d_H_assign_51 : decode c_H_assign 51 = .ok (.bipush 30, 2) := by decide +kernel
theorem d_H_assign_53 : decode c_H_assign 53 = .ok (.lshr, 1) := by decide +kernel
theorem d_H_assign_54 : decode c_H_assign 54 = .ok (.lstore_n 3, 1) := by decide +kernel
theorem d_H_assign_55 : decode c_H_assign 55 = .ok (.goto (-48), 3) := by decide +kernel
theorem d_H_assign_58 : decode c_H_assign 58 = .ok (.return_, 1) := by decide +kernel
theorem d_H_raise_0 : decode c_H_raise 0 = .ok (.iload_n 1, 1) := by decide +kernel
theorem d_H_raise_1 : decode c_H_raise 1 = .ok (.invokestatic 55, 3) := by decide +kernel
theorem d_H_raise_4 : decode c_H_raise 4 = .ok (.istore_n 3, 1) := by decide +kernel
theorem d_H_raise_5 : decode c_H_raise 5 = .ok (.iload_n 1, 1) := by decide +kernel
theorem d_H_raise_6 : decode c_H_raise 6 = .ok (.iload_n 3, 1) := by decide +kernel
theorem d_H_raise_7 : decode c_H_raise 7 = .ok (.invokestatic 58, 3) := by decide +kernel
theorem d_H_raise_10 : decode c_H_raise 10 = .ok (.l2i, 1) := by decide +kernel
theorem d_H_raise_11 : decode c_H_raise 11 = .ok (.istore 4, 2) := by decide +kernel
theorem d_H_raise_13 : decode c_H_raise 13 = .ok (.iconst 0, 1) := by decide +kernel
theorem d_H_raise_14 : decode c_H_raise 14 = .ok (.istore 5, 2) := by decide +kernel
theorem d_H_raise_16 : decode c_H_raise 16 = .ok (.iload 5, 2) := by decide +kernel
theorem d_H_raise_18 : decode c_H_raise 18 = .ok (.iload_n 2, 1) := by decide +kernel
theorem d_H_raise_19 : decode c_H_raise 19 = .ok (.iload_n 3, 1) := by decide +kernel
theorem d_H_raise_20 : decode c_H_raise 20 = .ok (.idiv, 1) := by decide +kernel
theorem d_H_raise_21 : decode c_H_raise 21 = .ok (.if_icmp .ge 16, 3) := by decide +kernel
theorem d_H_raise_24 : decode c_H_raise 24 = .ok (.aload_n 0, 1) := by decide +kernel
theorem d_H_raise_25 : decode c_H_raise 25 = .ok (.iload 4, 2) := by decide +kernel
theorem d_H_raise_27 : decode c_H_raise 27 = .ok (.iconst 0, 1) := by decide +kernel
theorem d_H_raise_28 : decode c_H_raise 28 = .ok (.invokevirtual 62, 3) := by decide +kernel
theorem d_H_raise_31 : decode c_H_raise 31 = .ok (.iinc 5 1, 3) := by decide +kernel
theorem d_H_raise_34 : decode c_H_raise 34 = .ok (.goto (-18), 3) := by decide +kernel
theorem d_H_raise_37 : decode c_H_raise 37 = .ok (.aload_n 0, 1) := by decide +kernel
theorem d_H_raise_38 : decode c_H_raise 38 = .ok (.iload_n 1, 1) := by decide +kernel
theorem d_H_raise_39 : decode c_H_raise 39 = .ok (.iload_n 2, 1) := by decide +kernel
theorem d_H_raise_40 : decode c_H_raise 40 = .ok (.iload_n 3, 1) := by decide +kernel
theorem d_H_raise_41 : decode c_H_raise 41 = .ok (.irem, 1) := by decide +kernel
theorem d_H_raise_42 : decode c_H_raise 42 = .ok (.invokestatic 58, 3) := by decide +kernel
theorem d_H_raise_45 : decode c_H_raise 45 = .ok (.l2i, 1) := by decide +kernel
theorem d_H_raise_46 : decode c_H_raise 46 = .ok (.iconst 0, 1) := by decide +kernel
theorem d_H_raise_47 : decode c_H_raise 47 = .ok (.invokevirtual 62, 3) := by decide +kernel
theorem d_H_raise_50 : decode c_H_raise 50 = .ok (.return_, 1) := by decide +kernel
theorem d_D_power_0 : decode c_D_power 0 = .ok (.lconst 1, 1) := by decide +kernel
theorem d_D_power_1 : decode c_D_power 1 = .ok (.lstore_n 2, 1) := by decide +kernel
theorem d_D_power_2 : decode c_D_power 2 = .ok (.iconst 0, 1) := by decide +kernel
theorem d_D_power_3 : decode c_D_power 3 = .ok (.istore 4, 2) := by decide +kernel
theorem d_D_power_5 : decode c_D_power 5 = .ok (.iload 4, 2) := by decide +kernel
theorem d_D_power_7 : decode c_D_power 7 = .ok (.iload_n 1, 1) := by decide +kernel
theorem d_D_power_8 : decode c_D_power 8 = .ok (.if_icmp .ge 14, 3) := by decide +kernel
theorem d_D_power_11 : decode c_D_power 11 = .ok (.lload_n 2, 1) := by decide +kernel
theorem d_D_power_12 : decode c_D_power 12 = .ok (.iload_n 0, 1) := by decide +kernel
theorem d_D_power_13 : decode c_D_power 13 = .ok (.i2l, 1) := by decide +kernel
theorem d_D_power_14 : decode c_D_power 14 = .ok (.lmul, 1) := by decide +kernel
theorem d_D_power_15 : decode c_D_power 15 = .ok (.lstore_n 2, 1) := by decide +kernel
theorem d_D_power_16 : decode c_D_power 16 = .ok (.iinc 4 1, 3) := by decide +kernel
theorem d_D_power_19 : decode c_D_power 19 = .ok (.goto (-14), 3) := by decide +kernel
theorem d_D_power_22 : decode c_D_power 22 = .ok (.lload_n 2, 1) := by decide +kernel
theorem d_D_power_23 : decode c_D_power 23 = .ok (.lreturn, 1) := by decide +kernel
theorem d_H_increase_0 : decode c_H_increase 0 = .ok (.aload_n 0, 1) := by decide +kernel
theorem d_H_increase_1 : decode c_H_increase 1 = .ok (.getfield 15, 3) := by decide +kernel
theorem d_H_increase_4 : decode c_H_increase 4 = .ok (.aload_n 1, 1) := by decide +kernel
theorem d_H_increase_5 : decode c_H_increase 5 = .ok (.getfield 15, 3) := by decide +kernel
theorem d_H_increase_8 : decode c_H_increase 8 = .ok (.invokestatic 44, 3) := by decide +kernel
theorem d_H_increase_11 : decode c_H_increase 11 = .ok (.aload_n 0, 1) := by decide +kernel
theorem d_H_increase_12 : decode c_H_increase 12 = .ok (.getfield 9, 3) := by decide +kernel
theorem d_H_increase_15 : decode c_H_increase 15 = .ok (.arraylength, 1) := by decide +kernel
theorem d_H_increase_16 : decode c_H_increase 16 = .ok (.invokestatic 25, 3) := by decide +kernel
theorem d_H_increase_19 : decode c_H_increase 19 = .ok (.istore_n 2, 1) := by decide +kernel
theorem d_H_increase_20 : decode c_H_increase 20 = .ok (.iconst 0, 1) := by decide +kernel
theorem d_H_increase_21 : decode c_H_increase 21 = .ok (.istore_n 3, 1) := by decide +kernel
theorem d_H_increase_22 : decode c_H_increase 22 = .ok (.iconst 0, 1) := by decide +kernel
theorem d_H_increase_23 : decode c_H_increase 23 = .ok (.istore 4, 2) := by decide +kernel
theorem d_H_increase_25 : decode c_H_increase 25 = .ok (.iload 4, 2) := by decide +kernel
theorem d_H_increase_27 : decode c_H_increase 27 = .ok (.iload_n 2, 1) := by decide +kernel
theorem d_H_increase_28 : decode c_H_increase 28 = .ok (.if_icmp .ge 44, 3) := by decide +kernel
theorem d_H_increase_31 : decode c_H_increase 31 = .ok (.aload_n 0, 1) := by decide +kernel
theorem d_H_increase_32 : decode c_H_increase 32 = .ok (.iload 4, 2) := by decide +kernel
theorem d_H_increase_34 : decode c_H_increase 34 = .ok (.invokevirtual 47, 3) := by decide +kernel
theorem d_H_increase_37 : decode c_H_increase 37 = .ok (.aload_n 1, 1) := by decide +kernel
theorem d_H_increase_38 : decode c_H_increase 38 = .ok (.iload 4, 2) := by decide +kernel
theorem d_H_increase_40 : decode c_H_increase 40 = .ok (.invokevirtual 47, 3) := by decide +kernel
theorem d_H_increase_43 : decode c_H_increase 43 = .ok (.iadd, 1) := by decide +kernel
theorem d_H_increase_44 : decode c_H_increase 44 = .ok (.iload_n 3, 1) := by decide +kernel
theorem d_H_increase_45 : decode c_H_increase 45 = .ok (.iadd, 1) := by decide +kernel
theorem d_H_increase_46 : decode c_H_increase 46 = .ok (.istore 5, 2) := by decide +kernel
theorem d_H_increase_48 : decode c_H_increase 48 = .ok (.aload_n 0, 1) := by decide +kernel
theorem d_H_increase_49 : decode c_H_increase 49 = .ok (.getfield 9, 3) := by decide +kernel
theorem d_H_increase_52 : decode c_H_increase 52 = .ok (.iload 4, 2) := by decide +kernel
theorem d_H_increase_54 : decode c_H_increase 54 = .ok (.iload 5, 2) := by decide +kernel
theorem d_H_increase_56 : decode c_H_increase 56 = .ok (.ldc 50, 2) := by decide +kernel
theorem d_H_increase_58 : decode c_H_increase 58 = .ok (.iand, 1) := by decide +kernel
theorem d_H_increase_59 : decode c_H_increase 59 = .ok (.iastore, 1) := by decide +kernel
theorem d_H_increase_60 : decode c_H_increase 60 = .ok (.iload 5, 2) := by decide +kernel
theorem d_H_increase_62 : decode c_H_increase 62 = .ok (.bipush 30, 2) := by decide +kernel
theorem d_H_increase_64 : decode c_H_increase 64 = .ok (.ishr, 1) := by decide +kernel
theorem d_H_increase_65 : decode c_H_increase 65 = .ok (.istore_n 3, 1) := by decide +kernel
theorem d_H_increase_66 : decode c_H_increase 66 = .ok (.iinc 4 1, 3) := by decide +kernel
theorem d_H_increase_69 : decode c_H_increase 69 = .ok (.goto (-44), 3) := by decide +kernel
theorem d_H_increase_72 : decode c_H_increase 72 = .ok (.aload_n 0, 1) := by decide +kernel
theorem d_H_increase_73 : decode c_H_increase 73 = .ok (.iload_n 2, 1) := by decide +kernel
theorem d_H_increase_74 : decode c_H_increase 74 = .ok (.putfield 15, 3) := by decide +kernel
theorem d_H_increase_77 : decode c_H_increase 77 = .ok (.aload_n 0, 1) := by decide +kernel
theorem d_H_increase_78 : decode c_H_increase 78 = .ok (.iload_n 3, 1) := by decide +kernel
theorem d_H_increase_79 : decode c_H_increase 79 = .ok (.invokevirtual 51, 3) := by decide +kernel
theorem d_H_increase_82 : decode c_H_increase 82 = .ok (.return_, 1) := by decide +kernel
theorem d_H_limbAt_0 : decode c_H_limbAt 0 = .ok (.iload_n 1, 1) := by decide +kernel
theorem d_H_limbAt_1 : decode c_H_limbAt 1 = .ok (.aload_n 0, 1) := by decide +kernel
theorem d_H_limbAt_2 : decode c_H_limbAt 2 = .ok (.getfield 15, 3) := by decide +kernel
theorem d_H_limbAt_5 : decode c_H_limbAt 5 = .ok (.if_icmp .ge 12, 3) := by decide +kernel
theorem d_H_limbAt_8 : decode c_H_limbAt 8 = .ok (.aload_n 0, 1) := by decide +kernel
theorem d_H_limbAt_9 : decode c_H_limbAt 9 = .ok (.getfield 9, 3) := by decide +kernel
theorem d_H_limbAt_12 : decode c_H_limbAt 12 = .ok (.iload_n 1, 1) := by decide +kernel
theorem d_H_limbAt_13 : decode c_H_limbAt 13 = .ok (.iaload, 1) := by decide +kernel
theorem d_H_limbAt_14 : decode c_H_limbAt 14 = .ok (.goto 4, 3) := by decide +kernel
theorem d_H_limbAt_17 : decode c_H_limbAt 17 = .ok (.iconst 0, 1) := by decide +kernel
theorem d_H_limbAt_18 : decode c_H_limbAt 18 = .ok (.ireturn, 1) := by decide +kernel
theorem d_JA_fillJ_0 : decode c_JA_fillJ 0 = .ok (.iconst 0, 1) := by decide +kernel
theorem d_JA_fillJ_1 : decode c_JA_fillJ 1 = .ok (.istore_n 3, 1) := by decide +kernel
theorem d_JA_fillJ_2 : decode c_JA_fillJ 2 = .ok (.aload_n 0, 1) := by decide +kernel
theorem d_JA_fillJ_3 : decode c_JA_fillJ 3 = .ok (.arraylength, 1) := by decide +kernel
theorem d_JA_fillJ_4 : decode c_JA_fillJ 4 = .ok (.istore 4, 2) := by decide +kernel
theorem d_JA_fillJ_6 : decode c_JA_fillJ 6 = .ok (.iload_n 3, 1) := by decide +kernel
theorem d_JA_fillJ_7 : decode c_JA_fillJ 7 = .ok (.iload 4, 2) := by decide +kernel
theorem d_JA_fillJ_9 : decode c_JA_fillJ 9 = .ok (.if_icmp .ge 13, 3) := by decide +kernel
theorem d_JA_fillJ_12 : decode c_JA_fillJ 12 = .ok (.aload_n 0, 1) := by decide +kernel
theorem d_JA_fillJ_13 : decode c_JA_fillJ 13 = .ok (.iload_n 3, 1) := by decide +kernel
theorem d_JA_fillJ_14 : decode c_JA_fillJ 14 = .ok (.lload_n 1, 1) := by decide +kernel
theorem d_JA_fillJ_15 : decode c_JA_fillJ 15 = .ok (.lastore, 1) := by decide +kernel
theorem d_JA_fillJ_16 : decode c_JA_fillJ 16 = .ok (.iinc 3 1, 3) := by decide +kernel
theorem d_JA_fillJ_19 : decode c_JA_fillJ 19 = .ok (.goto (-13), 3) := by decide +kernel
theorem d_JA_fillJ_22 : decode c_JA_fillJ 22 = .ok (.return_, 1) := by decide +kernel
theorem d_H_absorbsCarry_0 : decode c_H_absorbsCarry 0 = .ok (.iload_n 1, 1) := by decide +kernel
theorem d_H_absorbsCarry_1 : decode c_H_absorbsCarry 1 = .ok (.istore_n 3, 1) := by decide +kernel
theorem d_H_absorbsCarry_2 : decode c_H_absorbsCarry 2 = .ok (.iload_n 3, 1) := by decide +kernel
theorem d_H_absorbsCarry_3 : decode c_H_absorbsCarry 3 = .ok (.iload_n 2, 1) := by decide +kernel
theorem d_H_absorbsCarry_4 : decode c_H_absorbsCarry 4 = .ok (.if_icmp .ge 21, 3) := by decide +kernel
theorem d_H_absorbsCarry_7 : decode c_H_absorbsCarry 7 = .ok (.aload_n 0, 1) := by decide +kernel
theorem d_H_absorbsCarry_8 : decode c_H_absorbsCarry 8 = .ok (.iload_n 3, 1) := by decide +kernel
theorem d_H_absorbsCarry_9 : decode c_H_absorbsCarry 9 = .ok (.invokevirtual 47, 3) := by decide +kernel
theorem d_H_absorbsCarry_12 : decode c_H_absorbsCarry 12 = .ok (.ldc 50, 2) := by decide +kernel
theorem d_H_absorbsCarry_14 : decode c_H_absorbsCarry 14 = .ok (.if_icmp .eq 5, 3) := by decide +kernel
theorem d_H_absorbsCarry_17 : decode c_H_absorbsCarry 17 = .ok (.iconst 1, 1) := by decide +kernel
theorem d_H_absorbsCarry_18 : decode c_H_absorbsCarry 18 = .ok (.ireturn, 1) := by decide +kernel
theorem d_H_absorbsCarry_19 : decode c_H_absorbsCarry 19 = .ok (.iinc 3 1, 3) := by decide +kernel
theorem d_H_absorbsCarry_22 : decode c_H_absorbsCarry 22 = .ok (.goto (-20), 3) := by decide +kernel
theorem d_H_absorbsCarry_25 : decode c_H_absorbsCarry 25 = .ok (.iconst 0, 1) := by decide +kernel
theorem d_H_absorbsCarry_26 : decode c_H_absorbsCarry 26 = .ok (.ireturn, 1) := by decide +kernel
theorem d_H_openTop_0 : decode c_H_openTop 0 = .ok (.aload_n 0, 1) := by decide +kernel
theorem d_H_openTop_1 : decode c_H_openTop 1 = .ok (.getfield 15, 3) := by decide +kernel
theorem d_H_openTop_4 : decode c_H_openTop 4 = .ok (.aload_n 0, 1) := by decide +kernel
theorem d_H_openTop_5 : decode c_H_openTop 5 = .ok (.getfield 9, 3) := by decide +kernel
theorem d_H_openTop_8 : decode c_H_openTop 8 = .ok (.arraylength, 1) := by decide +kernel
theorem d_H_openTop_9 : decode c_H_openTop 9 = .ok (.if_icmp .ge 13, 3) := by decide +kernel
theorem d_H_openTop_12 : decode c_H_openTop 12 = .ok (.aload_n 0, 1) := by decide +kernel
theorem d_H_openTop_13 : decode c_H_openTop 13 = .ok (.getfield 9, 3) := by decide +kernel
theorem d_H_openTop_16 : decode c_H_openTop 16 = .ok (.aload_n 0, 1) := by decide +kernel
theorem d_H_openTop_17 : decode c_H_openTop 17 = .ok (.getfield 15, 3) := by decide +kernel
theorem d_H_openTop_20 : decode c_H_openTop 20 = .ok (.iconst 0, 1) := by decide +kernel
theorem d_H_openTop_21 : decode c_H_openTop 21 = .ok (.iastore, 1) := by decide +kernel
theorem d_H_openTop_22 : decode c_H_openTop 22 = .ok (.return_, 1) := by decide +kernel
theorem d_H_decrease_0 : decode c_H_decrease 0 = .ok (.iconst 0, 1) := by decide +kernel
theorem d_H_decrease_1 : decode c_H_decrease 1 = .ok (.istore_n 2, 1) := by decide +kernel
theorem d_H_decrease_2 : decode c_H_decrease 2 = .ok (.iconst 0, 1) := by decide +kernel
theorem d_H_decrease_3 : decode c_H_decrease 3 = .ok (.istore_n 3, 1) := by decide +kernel
theorem d_H_decrease_4 : decode c_H_decrease 4 = .ok (.iload_n 3, 1) := by decide +kernel
theorem d_H_decrease_5 : decode c_H_decrease 5 = .ok (.aload_n 0, 1) := by decide +kernel
theorem d_H_decrease_6 : decode c_H_decrease 6 = .ok (.getfield 15, 3) := by decide +kernel
theorem d_H_decrease_9 : decode c_H_decrease 9 = .ok (.if_icmp .ge 42, 3) := by decide +kernel
theorem d_H_decrease_12 : decode c_H_decrease 12 = .ok (.aload_n 0, 1) := by decide +kernel
theorem d_H_decrease_13 : decode c_H_decrease 13 = .ok (.getfield 9, 3) := by decide +kernel
theorem d_H_decrease_16 : decode c_H_decrease 16 = .ok (.iload_n 3, 1) := by decide +kernel
theorem d_H_decrease_17 : decode c_H_decrease 17 = .ok (.iaload, 1) := by decide +kernel
theorem d_H_decrease_18 : decode c_H_decrease 18 = .ok (.aload_n 1, 1) := by decide +kernel
theorem d_H_decrease_19 : decode c_H_decrease 19 = .ok (.iload_n 3, 1) := by decide +kernel
theorem d_H_decrease_20 : decode c_H_decrease 20 = .ok (.invokevirtual 47, 3) := by decide +kernel
theorem d_H_decrease_23 : decode c_H_decrease 23 = .ok (.isub, 1) := by decide +kernel
theorem d_H_decrease_24 : decode c_H_decrease 24 = .ok (.iload_n 2, 1) := by decide +kernel
theorem d_H_decrease_25 : decode c_H_decrease 25 = .ok (.iadd, 1) := by decide +kernel
theorem d_H_decrease_26 : decode c_H_decrease 26 = .ok (.istore 4, 2) := by decide +kernel
theorem d_H_decrease_28 : decode c_H_decrease 28 = .ok (.aload_n 0, 1) := by decide +kernel
theorem d_H_decrease_29 : decode c_H_decrease 29 = .ok (.getfield 9, 3) := by decide +kernel
theorem d_H_decrease_32 : decode c_H_decrease 32 = .ok (.iload_n 3, 1) := by decide +kernel
theorem d_H_decrease_33 : decode c_H_decrease 33 = .ok (.iload 4, 2) := by decide +kernel
theorem d_H_decrease_35 : decode c_H_decrease 35 = .ok (.ldc 50, 2) := by decide +kernel
theorem d_H_decrease_37 : decode c_H_decrease 37 = .ok (.iand, 1) := by decide +kernel
theorem d_H_decrease_38 : decode c_H_decrease 38 = .ok (.iastore, 1) := by decide +kernel
theorem d_H_decrease_39 : decode c_H_decrease 39 = .ok (.iload 4, 2) := by decide +kernel
theorem d_H_decrease_41 : decode c_H_decrease 41 = .ok (.bipush 30, 2) := by decide +kernel
theorem d_H_decrease_43 : decode c_H_decrease 43 = .ok (.ishr, 1) := by decide +kernel
theorem d_H_decrease_44 : decode c_H_decrease 44 = .ok (.istore_n 2, 1) := by decide +kernel
theorem d_H_decrease_45 : decode c_H_decrease 45 = .ok (.iinc 3 1, 3) := by decide +kernel
theorem d_H_decrease_48 : decode c_H_decrease 48 = .ok (.goto (-44), 3) := by decide +kernel
theorem d_H_decrease_51 : decode c_H_decrease 51 = .ok (.aload_n 0, 1) := by decide +kernel
theorem d_H_decrease_52 : decode c_H_decrease 52 = .ok (.invokevirtual 37, 3) := by decide +kernel
theorem d_H_decrease_55 : decode c_H_decrease 55 = .ok (.return_, 1) := by decide +kernel
theorem d_H_multiply_0 : decode c_H_multiply 0 = .ok (.aload_n 0, 1) := by decide +kernel
theorem d_H_multiply_1 : decode c_H_multiply 1 = .ok (.aload_n 1, 1) := by decide +kernel
theorem d_H_multiply_2 : decode c_H_multiply 2 = .ok (.getfield 15, 3) := by decide +kernel
theorem d_H_multiply_5 : decode c_H_multiply 5 = .ok (.aload_n 2, 1) := by decide +kernel
theorem d_H_multiply_6 : decode c_H_multiply 6 = .ok (.getfield 15, 3) := by decide +kernel
theorem d_H_multiply_9 : decode c_H_multiply 9 = .ok (.iadd, 1) := by decide +kernel
theorem d_H_multiply_10 : decode c_H_multiply 10 = .ok (.invokevirtual 66, 3) := by decide +kernel
theorem d_H_multiply_13 : decode c_H_multiply 13 = .ok (.iconst 0, 1) := by decide +kernel
theorem d_H_multiply_14 : decode c_H_multiply 14 = .ok (.istore_n 3, 1) := by decide +kernel
theorem d_H_multiply_15 : decode c_H_multiply 15 = .ok (.iload_n 3, 1) := by decide +kernel
theorem d_H_multiply_16 : decode c_H_multiply 16 = .ok (.aload_n 1, 1) := by decide +kernel
theorem d_H_multiply_17 : decode c_H_multiply 17 = .ok (.getfield 15, 3) := by decide +kernel
theorem d_H_multiply_20 : decode c_H_multiply 20 = .ok (.if_icmp .ge 117, 3) := by decide +kernel
theorem d_H_multiply_23 : decode c_H_multiply 23 = .ok (.iload_n 3, 1) := by decide +kernel
theorem d_H_multiply_24 : decode c_H_multiply 24 = .ok (.aload_n 2, 1) := by decide +kernel
theorem d_H_multiply_25 : decode c_H_multiply 25 = .ok (.getfield 15, 3) := by decide +kernel
theorem d_H_multiply_28 : decode c_H_multiply 28 = .ok (.iadd, 1) := by decide +kernel
theorem d_H_multiply_29 : decode c_H_multiply 29 = .ok (.aload_n 0, 1) := by decide +kernel
theorem d_H_multiply_30 : decode c_H_multiply 30 = .ok (.getfield 9, 3) := by decide +kernel
theorem d_H_multiply_33 : decode c_H_multiply 33 = .ok (.arraylength, 1) := by decide +kernel
theorem d_H_multiply_34 : decode c_H_multiply 34 = .ok (.if_icmp .ge 103, 3) := by decide +kernel
theorem d_H_multiply_37 : decode c_H_multiply 37 = .ok (.aload_n 1, 1) := by decide +kernel
theorem d_H_multiply_38 : decode c_H_multiply 38 = .ok (.getfield 9, 3) := by decide +kernel
theorem d_H_multiply_41 : decode c_H_multiply 41 = .ok (.iload_n 3, 1) := by decide +kernel
theorem d_H_multiply_42 : decode c_H_multiply 42 = .ok (.iaload, 1) := by decide +kernel
theorem d_H_multiply_43 : decode c_H_multiply 43 = .ok (.i2l, 1) := by decide +kernel
theorem d_H_multiply_44 : decode c_H_multiply 44 = .ok (.lstore 4, 2) := by decide +kernel
theorem d_H_multiply_46 : decode c_H_multiply 46 = .ok (.lconst 0, 1) := by decide +kernel
theorem d_H_multiply_47 : decode c_H_multiply 47 = .ok (.lstore 6, 2) := by decide +kernel
theorem d_H_multiply_49 : decode c_H_multiply 49 = .ok (.iconst 0, 1) := by decide +kernel
theorem d_H_multiply_50 : decode c_H_multiply 50 = .ok (.istore 8, 2) := by decide +kernel
theorem d_H_multiply_52 : decode c_H_multiply 52 = .ok (.iload 8, 2) := by decide +kernel
theorem d_H_multiply_54 : decode c_H_multiply 54 = .ok (.aload_n 2, 1) := by decide +kernel
theorem d_H_multiply_55 : decode c_H_multiply 55 = .ok (.getfield 15, 3) := by decide +kernel
theorem d_H_multiply_58 : decode c_H_multiply 58 = .ok (.if_icmp .ge 59, 3) := by decide +kernel
theorem d_H_multiply_61 : decode c_H_multiply 61 = .ok (.lload 6, 2) := by decide +kernel
theorem d_H_multiply_63 : decode c_H_multiply 63 = .ok (.lload 4, 2) := by decide +kernel
theorem d_H_multiply_65 : decode c_H_multiply 65 = .ok (.aload_n 2, 1) := by decide +kernel
theorem d_H_multiply_66 : decode c_H_multiply 66 = .ok (.getfield 9, 3) := by decide +kernel
theorem d_H_multiply_69 : decode c_H_multiply 69 = .ok (.iload 8, 2) := by decide +kernel
theorem d_H_multiply_71 : decode c_H_multiply 71 = .ok (.iaload, 1) := by decide +kernel
theorem d_H_multiply_72 : decode c_H_multiply 72 = .ok (.i2l, 1) := by decide +kernel
theorem d_H_multiply_73 : decode c_H_multiply 73 = .ok (.lmul, 1) := by decide +kernel
theorem d_H_multiply_74 : decode c_H_multiply 74 = .ok (.aload_n 0, 1) := by decide +kernel
theorem d_H_multiply_75 : decode c_H_multiply 75 = .ok (.getfield 9, 3) := by decide +kernel
theorem d_H_multiply_78 : decode c_H_multiply 78 = .ok (.iload_n 3, 1) := by decide +kernel
theorem d_H_multiply_79 : decode c_H_multiply 79 = .ok (.iload 8, 2) := by decide +kernel
theorem d_H_multiply_81 : decode c_H_multiply 81 = .ok (.iadd, 1) := by decide +kernel
theorem d_H_multiply_82 : decode c_H_multiply 82 = .ok (.iaload, 1) := by decide +kernel
theorem d_H_multiply_83 : decode c_H_multiply 83 = .ok (.i2l, 1) := by decide +kernel
theorem d_H_multiply_84 : decode c_H_multiply 84 = .ok (.ladd, 1) := by decide +kernel
theorem d_H_multiply_85 : decode c_H_multiply 85 = .ok (.ladd, 1) := by decide +kernel
theorem d_H_multiply_86 : decode c_H_multiply 86 = .ok (.lstore 6, 2) := by decide +kernel
theorem d_H_multiply_88 : decode c_H_multiply 88 = .ok (.aload_n 0, 1) := by decide +kernel
theorem d_H_multiply_89 : decode c_H_multiply 89 = .ok (.getfield 9, 3) := by decide +kernel
theorem d_H_multiply_92 : decode c_H_multiply 92 = .ok (.iload_n 3, 1) := by decide +kernel
theorem d_H_multiply_93 : decode c_H_multiply 93 = .ok (.iload 8, 2) := by decide +kernel
theorem d_H_multiply_95 : decode c_H_multiply 95 = .ok (.iadd, 1) := by decide +kernel
theorem d_H_multiply_96 : decode c_H_multiply 96 = .ok (.lload 6, 2) := by decide +kernel
theorem d_H_multiply_98 : decode c_H_multiply 98 = .ok (.ldc2_w 19, 3) := by decide +kernel
theorem d_H_multiply_101 : decode c_H_multiply 101 = .ok (.land, 1) := by decide +kernel
theorem d_H_multiply_102 : decode c_H_multiply 102 = .ok (.l2i, 1) := by decide +kernel
theorem d_H_multiply_103 : decode c_H_multiply 103 = .ok (.iastore, 1) := by decide +kernel
theorem d_H_multiply_104 : decode c_H_multiply 104 = .ok (.lload 6, 2) := by decide +kernel
theorem d_H_multiply_106 : decode c_H_multiply 106 = .ok (.bipush 30, 2) := by decide +kernel
theorem d_H_multiply_108 : decode c_H_multiply 108 = .ok (.lshr, 1) := by decide +kernel
theorem d_H_multiply_109 : decode c_H_multiply 109 = .ok (.lstore 6, 2) := by decide +kernel
theorem d_H_multiply_111 : decode c_H_multiply 111 = .ok (.iinc 8 1, 3) := by decide +kernel
theorem d_H_multiply_114 : decode c_H_multiply 114 = .ok (.goto (-62), 3) := by decide +kernel
theorem d_H_multiply_117 : decode c_H_multiply 117 = .ok (.aload_n 0, 1) := by decide +kernel
theorem d_H_multiply_118 : decode c_H_multiply 118 = .ok (.getfield 9, 3) := by decide +kernel
theorem d_H_multiply_121 : decode c_H_multiply 121 = .ok (.iload_n 3, 1) := by decide +kernel
theorem d_H_multiply_122 : decode c_H_multiply 122 = .ok (.aload_n 2, 1) := by decide +kernel
theorem d_H_multiply_123 : decode c_H_multiply 123 = .ok (.getfield 15, 3) := by decide +kernel
theorem d_H_multiply_126 : decode c_H_multiply 126 = .ok (.iadd, 1) := by decide +kernel
theorem d_H_multiply_127 : decode c_H_multiply 127 = .ok (.lload 6, 2) := by decide +kernel
theorem d_H_multiply_129 : decode c_H_multiply 129 = .ok (.l2i, 1) := by decide +kernel
theorem d_H_multiply_130 : decode c_H_multiply 130 = .ok (.iastore, 1) := by decide +kernel
theorem d_H_multiply_131 : decode c_H_multiply 131 = .ok (.iinc 3 1, 3) := by decide +kernel
theorem d_H_multiply_134 : decode c_H_multiply 134 = .ok (.goto (-119), 3) := by decide +kernel
theorem d_H_multiply_137 : decode c_H_multiply 137 = .ok (.aload_n 0, 1) := by decide +kernel
theorem d_H_multiply_138 : decode c_H_multiply 138 = .ok (.invokevirtual 37, 3) := by decide +kernel
theorem d_H_multiply_141 : decode c_H_multiply 141 = .ok (.return_, 1) := by decide +kernel
