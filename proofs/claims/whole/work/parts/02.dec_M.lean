theorem d_M_init_0 : decode c_M_init 0 = .ok (.aload_n 0, 1) := by decide +kernel
theorem d_M_init_1 : decode c_M_init 1 = .ok (.invokespecial 1, 3) := by decide +kernel
theorem d_M_init_4 : decode c_M_init 4 = .ok (.aload_n 0, 1) := by decide +kernel
theorem d_M_init_5 : decode c_M_init 5 = .ok (.sipush 28000, 3) := by decide +kernel
theorem d_M_init_8 : decode c_M_init 8 = .ok (.newarray .int, 2) := by decide +kernel
theorem d_M_init_10 : decode c_M_init 10 = .ok (.putfield 7, 3) := by decide +kernel
theorem d_M_init_13 : decode c_M_init 13 = .ok (.aload_n 0, 1) := by decide +kernel
theorem d_M_init_14 : decode c_M_init 14 = .ok (.bipush 10, 2) := by decide +kernel
theorem d_M_init_16 : decode c_M_init 16 = .ok (.newarray .int, 2) := by decide +kernel
theorem d_M_init_18 : decode c_M_init 18 = .ok (.putfield 13, 3) := by decide +kernel
theorem d_M_init_21 : decode c_M_init 21 = .ok (.aload_n 0, 1) := by decide +kernel
theorem d_M_init_22 : decode c_M_init 22 = .ok (.bipush 10, 2) := by decide +kernel
theorem d_M_init_24 : decode c_M_init 24 = .ok (.putfield 16, 3) := by decide +kernel
theorem d_M_init_27 : decode c_M_init 27 = .ok (.aload_n 0, 1) := by decide +kernel
theorem d_M_init_28 : decode c_M_init 28 = .ok (.bipush 10, 2) := by decide +kernel
theorem d_M_init_30 : decode c_M_init 30 = .ok (.putfield 20, 3) := by decide +kernel
theorem d_M_init_33 : decode c_M_init 33 = .ok (.aload_n 0, 1) := by decide +kernel
theorem d_M_init_34 : decode c_M_init 34 = .ok (.sipush 24001, 3) := by decide +kernel
theorem d_M_init_37 : decode c_M_init 37 = .ok (.newarray .int, 2) := by decide +kernel
theorem d_M_init_39 : decode c_M_init 39 = .ok (.putfield 23, 3) := by decide +kernel
theorem d_M_init_42 : decode c_M_init 42 = .ok (.aload_n 0, 1) := by decide +kernel
theorem d_M_init_43 : decode c_M_init 43 = .ok (.bipush 12, 2) := by decide +kernel
theorem d_M_init_45 : decode c_M_init 45 = .ok (.newarray .int, 2) := by decide +kernel
theorem d_M_init_47 : decode c_M_init 47 = .ok (.putfield 26, 3) := by decide +kernel
theorem d_M_init_50 : decode c_M_init 50 = .ok (.return_, 1) := by decide +kernel
theorem d_M_thrown_0 : decode c_M_thrown 0 = .ok (.aload_n 0, 1) := by decide +kernel
theorem d_M_thrown_1 : decode c_M_thrown 1 = .ok (.getfield 29, 3) := by decide +kernel
theorem d_M_thrown_4 : decode c_M_thrown 4 = .ok (.ireturn, 1) := by decide +kernel
theorem d_M_mill_0 : decode c_M_mill 0 = .ok (.aload_n 0, 1) := by decide +kernel
theorem d_M_mill_1 : decode c_M_mill 1 = .ok (.iload_n 1, 1) := by decide +kernel
theorem d_M_mill_2 : decode c_M_mill 2 = .ok (.ifCond .lt 8, 3) := by decide +kernel
theorem d_M_mill_5 : decode c_M_mill 5 = .ok (.iload_n 1, 1) := by decide +kernel
theorem d_M_mill_6 : decode c_M_mill 6 = .ok (.iconst 4, 1) := by decide +kernel
theorem d_M_mill_7 : decode c_M_mill 7 = .ok (.if_icmp .le 7, 3) := by decide +kernel
theorem d_M_mill_10 : decode c_M_mill 10 = .ok (.iconst 1, 1) := by decide +kernel
theorem d_M_mill_11 : decode c_M_mill 11 = .ok (.goto 4, 3) := by decide +kernel
theorem d_M_mill_14 : decode c_M_mill 14 = .ok (.iconst 0, 1) := by decide +kernel
theorem d_M_mill_15 : decode c_M_mill 15 = .ok (.iload_n 2, 1) := by decide +kernel
theorem d_M_mill_16 : decode c_M_mill 16 = .ok (.iload_n 3, 1) := by decide +kernel
theorem d_M_mill_17 : decode c_M_mill 17 = .ok (.invokevirtual 150, 3) := by decide +kernel
theorem d_M_mill_20 : decode c_M_mill 20 = .ok (.ifCond .eq 5, 3) := by decide +kernel
theorem d_M_mill_23 : decode c_M_mill 23 = .ok (.iconst 0, 1) := by decide +kernel
theorem d_M_mill_24 : decode c_M_mill 24 = .ok (.ireturn, 1) := by decide +kernel
theorem d_M_mill_25 : decode c_M_mill 25 = .ok (.iload_n 1, 1) := by decide +kernel
theorem d_M_mill_26 : decode c_M_mill 26 = .ok (.iconst 2, 1) := by decide +kernel
theorem d_M_mill_27 : decode c_M_mill 27 = .ok (.if_icmp .ne 12, 3) := by decide +kernel
theorem d_M_mill_30 : decode c_M_mill 30 = .ok (.aload_n 0, 1) := by decide +kernel
theorem d_M_mill_31 : decode c_M_mill 31 = .ok (.iload_n 2, 1) := by decide +kernel
theorem d_M_mill_32 : decode c_M_mill 32 = .ok (.iload_n 3, 1) := by decide +kernel
theorem d_M_mill_33 : decode c_M_mill 33 = .ok (.invokevirtual 154, 3) := by decide +kernel
theorem d_M_mill_36 : decode c_M_mill 36 = .ok (.goto 10, 3) := by decide +kernel
theorem d_M_mill_39 : decode c_M_mill 39 = .ok (.aload_n 0, 1) := by decide +kernel
theorem d_M_mill_40 : decode c_M_mill 40 = .ok (.iload_n 1, 1) := by decide +kernel
theorem d_M_mill_41 : decode c_M_mill 41 = .ok (.iload_n 2, 1) := by decide +kernel
theorem d_M_mill_42 : decode c_M_mill 42 = .ok (.iload_n 3, 1) := by decide +kernel
theorem d_M_mill_43 : decode c_M_mill 43 = .ok (.invokevirtual 157, 3) := by decide +kernel
theorem d_M_mill_46 : decode c_M_mill 46 = .ok (.aload_n 0, 1) := by decide +kernel
theorem d_M_mill_47 : decode c_M_mill 47 = .ok (.iload_n 3, 1) := by decide +kernel
theorem d_M_mill_48 : decode c_M_mill 48 = .ok (.invokevirtual 160, 3) := by decide +kernel
theorem d_M_mill_51 : decode c_M_mill 51 = .ok (.ireturn, 1) := by decide +kernel
theorem d_M_isWrong_0 : decode c_M_isWrong 0 = .ok (.aload_n 0, 1) := by decide +kernel
theorem d_M_isWrong_1 : decode c_M_isWrong 1 = .ok (.iload_n 1, 1) := by decide +kernel
theorem d_M_isWrong_2 : decode c_M_isWrong 2 = .ok (.ifCond .ne 21, 3) := by decide +kernel
theorem d_M_isWrong_5 : decode c_M_isWrong 5 = .ok (.iload_n 2, 1) := by decide +kernel
theorem d_M_isWrong_6 : decode c_M_isWrong 6 = .ok (.ifCond .lt 17, 3) := by decide +kernel
theorem d_M_isWrong_9 : decode c_M_isWrong 9 = .ok (.iload_n 2, 1) := by decide +kernel
theorem d_M_isWrong_10 : decode c_M_isWrong 10 = .ok (.sipush 6000, 3) := by decide +kernel
theorem d_M_isWrong_13 : decode c_M_isWrong 13 = .ok (.if_icmp .gt 10, 3) := by decide +kernel
theorem d_M_isWrong_16 : decode c_M_isWrong 16 = .ok (.iload_n 3, 1) := by decide +kernel
theorem d_M_isWrong_17 : decode c_M_isWrong 17 = .ok (.invokestatic 124, 3) := by decide +kernel
theorem d_M_isWrong_20 : decode c_M_isWrong 20 = .ok (.ifCond .ne 7, 3) := by decide +kernel
theorem d_M_isWrong_23 : decode c_M_isWrong 23 = .ok (.iconst 1, 1) := by decide +kernel
theorem d_M_isWrong_24 : decode c_M_isWrong 24 = .ok (.goto 4, 3) := by decide +kernel
theorem d_M_isWrong_27 : decode c_M_isWrong 27 = .ok (.iconst 0, 1) := by decide +kernel
theorem d_M_isWrong_28 : decode c_M_isWrong 28 = .ok (.iconst 1, 1) := by decide +kernel
theorem d_M_isWrong_29 : decode c_M_isWrong 29 = .ok (.invokevirtual 128, 3) := by decide +kernel
theorem d_M_isWrong_32 : decode c_M_isWrong 32 = .ok (.ifCond .eq 5, 3) := by decide +kernel
theorem d_M_isWrong_35 : decode c_M_isWrong 35 = .ok (.iconst 1, 1) := by decide +kernel
theorem d_M_isWrong_36 : decode c_M_isWrong 36 = .ok (.ireturn, 1) := by decide +kernel
theorem d_M_isWrong_37 : decode c_M_isWrong 37 = .ok (.aload_n 0, 1) := by decide +kernel
theorem d_M_isWrong_38 : decode c_M_isWrong 38 = .ok (.iload_n 2, 1) := by decide +kernel
theorem d_M_isWrong_39 : decode c_M_isWrong 39 = .ok (.iload_n 3, 1) := by decide +kernel
theorem d_M_isWrong_40 : decode c_M_isWrong 40 = .ok (.invokestatic 132, 3) := by decide +kernel
theorem d_M_isWrong_43 : decode c_M_isWrong 43 = .ok (.imul, 1) := by decide +kernel
theorem d_M_isWrong_44 : decode c_M_isWrong 44 = .ok (.sipush 20000, 3) := by decide +kernel
theorem d_M_isWrong_47 : decode c_M_isWrong 47 = .ok (.if_icmp .le 7, 3) := by decide +kernel
theorem d_M_isWrong_50 : decode c_M_isWrong 50 = .ok (.iconst 1, 1) := by decide +kernel
theorem d_M_isWrong_51 : decode c_M_isWrong 51 = .ok (.goto 4, 3) := by decide +kernel
theorem d_M_isWrong_54 : decode c_M_isWrong 54 = .ok (.iconst 0, 1) := by decide +kernel
theorem d_M_isWrong_55 : decode c_M_isWrong 55 = .ok (.iconst 2, 1) := by decide +kernel
theorem d_M_isWrong_56 : decode c_M_isWrong 56 = .ok (.invokevirtual 128, 3) := by decide +kernel
theorem d_M_isWrong_59 : decode c_M_isWrong 59 = .ok (.ireturn, 1) := by decide +kernel
theorem d_M_isBase_0 : decode c_M_isBase 0 = .ok (.iload_n 0, 1) := by decide +kernel
theorem d_M_isBase_1 : decode c_M_isBase 1 = .ok (.iconst 2, 1) := by decide +kernel
theorem d_M_isBase_2 : decode c_M_isBase 2 = .ok (.if_icmp .lt 13, 3) := by decide +kernel
theorem d_M_isBase_5 : decode c_M_isBase 5 = .ok (.iload_n 0, 1) := by decide +kernel
theorem d_M_isBase_6 : decode c_M_isBase 6 = .ok (.bipush 36, 2) := by decide +kernel
theorem d_M_isBase_8 : decode c_M_isBase 8 = .ok (.if_icmp .gt 7, 3) := by decide +kernel
theorem d_M_isBase_11 : decode c_M_isBase 11 = .ok (.iconst 1, 1) := by decide +kernel
theorem d_M_isBase_12 : decode c_M_isBase 12 = .ok (.goto 4, 3) := by decide +kernel
theorem d_M_isBase_15 : decode c_M_isBase 15 = .ok (.iconst 0, 1) := by decide +kernel
theorem d_M_isBase_16 : decode c_M_isBase 16 = .ok (.ireturn, 1) := by decide +kernel
theorem d_M_fails_0 : decode c_M_fails 0 = .ok (.aload_n 0, 1) := by decide +kernel
theorem d_M_fails_1 : decode c_M_fails 1 = .ok (.iload_n 1, 1) := by decide +kernel
theorem d_M_fails_2 : decode c_M_fails 2 = .ok (.ifCond .eq 7, 3) := by decide +kernel
theorem d_M_fails_5 : decode c_M_fails 5 = .ok (.iload_n 2, 1) := by decide +kernel
theorem d_M_fails_6 : decode c_M_fails 6 = .ok (.goto 4, 3) := by decide +kernel
theorem d_M_fails_9 : decode c_M_fails 9 = .ok (.iconst 0, 1) := by decide +kernel
theorem d_M_fails_10 : decode c_M_fails 10 = .ok (.putfield 29, 3) := by decide +kernel
theorem d_M_fails_13 : decode c_M_fails 13 = .ok (.iload_n 1, 1) := by decide +kernel
theorem d_M_fails_14 : decode c_M_fails 14 = .ok (.ireturn, 1) := by decide +kernel
theorem d_M_log_0 : decode c_M_log 0 = .ok (.iconst 0, 1) := by decide +kernel
theorem d_M_log_1 : decode c_M_log 1 = .ok (.istore_n 1, 1) := by decide +kernel
theorem d_M_log_2 : decode c_M_log 2 = .ok (.iconst 1, 1) := by decide +kernel
theorem d_M_log_3 : decode c_M_log 3 = .ok (.iload_n 1, 1) := by decide +kernel
theorem d_M_log_4 : decode c_M_log 4 = .ok (.ishl, 1) := by decide +kernel
theorem d_M_log_5 : decode c_M_log 5 = .ok (.iload_n 0, 1) := by decide +kernel
theorem d_M_log_6 : decode c_M_log 6 = .ok (.if_icmp .ge 9, 3) := by decide +kernel
theorem d_M_log_9 : decode c_M_log 9 = .ok (.iinc 1 1, 3) := by decide +kernel
theorem d_M_log_12 : decode c_M_log 12 = .ok (.goto (-10), 3) := by decide +kernel
theorem d_M_log_15 : decode c_M_log 15 = .ok (.iload_n 1, 1) := by decide +kernel
theorem d_M_log_16 : decode c_M_log 16 = .ok (.ireturn, 1) := by decide +kernel
theorem d_M_golden_0 : decode c_M_golden 0 = .ok (.aload_n 0, 1) := by decide +kernel
theorem d_M_golden_1 : decode c_M_golden 1 = .ok (.iconst 2, 1) := by decide +kernel
theorem d_M_golden_2 : decode c_M_golden 2 = .ok (.iload_n 2, 1) := by decide +kernel
theorem d_M_golden_3 : decode c_M_golden 3 = .ok (.iconst 2, 1) := by decide +kernel
theorem d_M_golden_4 : decode c_M_golden 4 = .ok (.iload_n 1, 1) := by decide +kernel
theorem d_M_golden_5 : decode c_M_golden 5 = .ok (.imul, 1) := by decide +kernel
theorem d_M_golden_6 : decode c_M_golden 6 = .ok (.invokevirtual 102, 3) := by decide +kernel
theorem d_M_golden_9 : decode c_M_golden 9 = .ok (.aload_n 0, 1) := by decide +kernel
theorem d_M_golden_10 : decode c_M_golden 10 = .ok (.iconst 2, 1) := by decide +kernel
theorem d_M_golden_11 : decode c_M_golden 11 = .ok (.ldc2_w 90, 3) := by decide +kernel
theorem d_M_golden_14 : decode c_M_golden 14 = .ok (.lconst 0, 1) := by decide +kernel
theorem d_M_golden_15 : decode c_M_golden 15 = .ok (.invokevirtual 60, 3) := by decide +kernel
theorem d_M_golden_18 : decode c_M_golden 18 = .ok (.aload_n 0, 1) := by decide +kernel
theorem d_M_golden_19 : decode c_M_golden 19 = .ok (.iconst 5, 1) := by decide +kernel
theorem d_M_golden_20 : decode c_M_golden 20 = .ok (.iconst 2, 1) := by decide +kernel
theorem d_M_golden_21 : decode c_M_golden 21 = .ok (.invokevirtual 121, 3) := by decide +kernel
theorem d_M_golden_24 : decode c_M_golden 24 = .ok (.aload_n 0, 1) := by decide +kernel
theorem d_M_golden_25 : decode c_M_golden 25 = .ok (.iconst 2, 1) := by decide +kernel
theorem d_M_golden_26 : decode c_M_golden 26 = .ok (.iload_n 2, 1) := by decide +kernel
theorem d_M_golden_27 : decode c_M_golden 27 = .ok (.iload_n 1, 1) := by decide +kernel
theorem d_M_golden_28 : decode c_M_golden 28 = .ok (.invokevirtual 102, 3) := by decide +kernel
theorem d_M_golden_31 : decode c_M_golden 31 = .ok (.aload_n 0, 1) := by decide +kernel
theorem d_M_golden_32 : decode c_M_golden 32 = .ok (.iconst 5, 1) := by decide +kernel
theorem d_M_golden_33 : decode c_M_golden 33 = .ok (.iconst 2, 1) := by decide +kernel
theorem d_M_golden_34 : decode c_M_golden 34 = .ok (.lconst 1, 1) := by decide +kernel
theorem d_M_golden_35 : decode c_M_golden 35 = .ok (.invokevirtual 50, 3) := by decide +kernel
theorem d_M_golden_38 : decode c_M_golden 38 = .ok (.aload_n 0, 1) := by decide +kernel
theorem d_M_golden_39 : decode c_M_golden 39 = .ok (.iconst 5, 1) := by decide +kernel
theorem d_M_golden_40 : decode c_M_golden 40 = .ok (.ldc2_w 73, 3) := by decide +kernel
theorem d_M_golden_43 : decode c_M_golden 43 = .ok (.invokevirtual 87, 3) := by decide +kernel
theorem d_M_golden_46 : decode c_M_golden 46 = .ok (.aload_n 0, 1) := by decide +kernel
theorem d_M_golden_47 : decode c_M_golden 47 = .ok (.iconst 0, 1) := by decide +kernel
theorem d_M_golden_48 : decode c_M_golden 48 = .ok (.iconst 5, 1) := by decide +kernel
theorem d_M_golden_49 : decode c_M_golden 49 = .ok (.invokevirtual 70, 3) := by decide +kernel
theorem d_M_golden_52 : decode c_M_golden 52 = .ok (.return_, 1) := by decide +kernel
theorem d_M_power_0 : decode c_M_power 0 = .ok (.aload_n 0, 1) := by decide +kernel
theorem d_M_power_1 : decode c_M_power 1 = .ok (.iload_n 1, 1) := by decide +kernel
theorem d_M_power_2 : decode c_M_power 2 = .ok (.lconst 1, 1) := by decide +kernel
theorem d_M_power_3 : decode c_M_power 3 = .ok (.invokevirtual 83, 3) := by decide +kernel
theorem d_M_power_6 : decode c_M_power 6 = .ok (.iconst 0, 1) := by decide +kernel
theorem d_M_power_7 : decode c_M_power 7 = .ok (.istore 4, 2) := by decide +kernel
theorem d_M_power_9 : decode c_M_power 9 = .ok (.iload 4, 2) := by decide +kernel
theorem d_M_power_11 : decode c_M_power 11 = .ok (.iload_n 3, 1) := by decide +kernel
theorem d_M_power_12 : decode c_M_power 12 = .ok (.if_icmp .ge 17, 3) := by decide +kernel
theorem d_M_power_15 : decode c_M_power 15 = .ok (.aload_n 0, 1) := by decide +kernel
theorem d_M_power_16 : decode c_M_power 16 = .ok (.iload_n 1, 1) := by decide +kernel
theorem d_M_power_17 : decode c_M_power 17 = .ok (.iload_n 2, 1) := by decide +kernel
theorem d_M_power_18 : decode c_M_power 18 = .ok (.i2l, 1) := by decide +kernel
theorem d_M_power_19 : decode c_M_power 19 = .ok (.lconst 0, 1) := by decide +kernel
theorem d_M_power_20 : decode c_M_power 20 = .ok (.invokevirtual 60, 3) := by decide +kernel
theorem d_M_power_23 : decode c_M_power 23 = .ok (.iinc 4 1, 3) := by decide +kernel
theorem d_M_power_26 : decode c_M_power 26 = .ok (.goto (-17), 3) := by decide +kernel
theorem d_M_power_29 : decode c_M_power 29 = .ok (.return_, 1) := by decide +kernel
theorem d_M_set_0 : decode c_M_set 0 = .ok (.aload_n 0, 1) := by decide +kernel
theorem d_M_set_1 : decode c_M_set 1 = .ok (.getfield 13, 3) := by decide +kernel
theorem d_M_set_4 : decode c_M_set 4 = .ok (.iload_n 1, 1) := by decide +kernel
theorem d_M_set_5 : decode c_M_set 5 = .ok (.iconst 0, 1) := by decide +kernel
theorem d_M_set_6 : decode c_M_set 6 = .ok (.iastore, 1) := by decide +kernel
theorem d_M_set_7 : decode c_M_set 7 = .ok (.lload_n 2, 1) := by decide +kernel
theorem d_M_set_8 : decode c_M_set 8 = .ok (.lstore 4, 2) := by decide +kernel
theorem d_M_set_10 : decode c_M_set 10 = .ok (.lload 4, 2) := by decide +kernel
theorem d_M_set_12 : decode c_M_set 12 = .ok (.lconst 0, 1) := by decide +kernel
theorem d_M_set_13 : decode c_M_set 13 = .ok (.lcmp, 1) := by decide +kernel
theorem d_M_set_14 : decode c_M_set 14 = .ok (.ifCond .le 47, 3) := by decide +kernel
theorem d_M_set_17 : decode c_M_set 17 = .ok (.aload_n 0, 1) := by decide +kernel
theorem d_M_set_18 : decode c_M_set 18 = .ok (.getfield 7, 3) := by decide +kernel
theorem d_M_set_21 : decode c_M_set 21 = .ok (.sipush 2800, 3) := by decide +kernel
theorem d_M_set_24 : decode c_M_set 24 = .ok (.iload_n 1, 1) := by decide +kernel
theorem d_M_set_25 : decode c_M_set 25 = .ok (.imul, 1) := by decide +kernel
theorem d_M_set_26 : decode c_M_set 26 = .ok (.aload_n 0, 1) := by decide +kernel
theorem d_M_set_27 : decode c_M_set 27 = .ok (.getfield 13, 3) := by decide +kernel
theorem d_M_set_30 : decode c_M_set 30 = .ok (.iload_n 1, 1) := by decide +kernel
theorem d_M_set_31 : decode c_M_set 31 = .ok (.iaload, 1) := by decide +kernel
theorem d_M_set_32 : decode c_M_set 32 = .ok (.iadd, 1) := by decide +kernel
theorem d_M_set_33 : decode c_M_set 33 = .ok (.lload 4, 2) := by decide +kernel
theorem d_M_set_35 : decode c_M_set 35 = .ok (.ldc2_w 32, 3) := by decide +kernel
theorem d_M_set_38 : decode c_M_set 38 = .ok (.land, 1) := by decide +kernel
theorem d_M_set_39 : decode c_M_set 39 = .ok (.l2i, 1) := by decide +kernel
theorem d_M_set_40 : decode c_M_set 40 = .ok (.iastore, 1) := by decide +kernel
theorem d_M_set_41 : decode c_M_set 41 = .ok (.aload_n 0, 1) := by decide +kernel
theorem d_M_set_42 : decode c_M_set 42 = .ok (.getfield 13, 3) := by decide +kernel
theorem d_M_set_45 : decode c_M_set 45 = .ok (.iload_n 1, 1) := by decide +kernel
theorem d_M_set_46 : decode c_M_set 46 = .ok (.dup2, 1) := by decide +kernel
theorem d_M_set_47 : decode c_M_set 47 = .ok (.iaload, 1) := by decide +kernel
theorem d_M_set_48 : decode c_M_set 48 = .ok (.iconst 1, 1) := by decide +kernel
theorem d_M_set_49 : decode c_M_set 49 = .ok (.iadd, 1) := by decide +kernel
theorem d_M_set_50 : decode c_M_set 50 = .ok (.iastore, 1) := by decide +kernel
theorem d_M_set_51 : decode c_M_set 51 = .ok (.lload 4, 2) := by decide +kernel
theorem d_M_set_53 : decode c_M_set 53 = .ok (.bipush 15, 2) := by decide +kernel
theorem d_M_set_55 : decode c_M_set 55 = .ok (.lshr, 1) := by decide +kernel
theorem d_M_set_56 : decode c_M_set 56 = .ok (.lstore 4, 2) := by decide +kernel
theorem d_M_set_58 : decode c_M_set 58 = .ok (.goto (-48), 3) := by decide +kernel
theorem d_M_set_61 : decode c_M_set 61 = .ok (.return_, 1) := by decide +kernel
theorem d_M_grow_0 : decode c_M_grow 0 = .ok (.lload 4, 2) := by decide +kernel
theorem d_M_grow_2 : decode c_M_grow 2 = .ok (.lstore 6, 2) := by decide +kernel
theorem d_M_grow_4 : decode c_M_grow 4 = .ok (.iconst 0, 1) := by decide +kernel
theorem d_M_grow_5 : decode c_M_grow 5 = .ok (.istore 8, 2) := by decide +kernel
theorem d_M_grow_7 : decode c_M_grow 7 = .ok (.iload 8, 2) := by decide +kernel
theorem d_M_grow_9 : decode c_M_grow 9 = .ok (.aload_n 0, 1) := by decide +kernel
theorem d_M_grow_10 : decode c_M_grow 10 = .ok (.getfield 13, 3) := by decide +kernel
theorem d_M_grow_13 : decode c_M_grow 13 = .ok (.iload_n 1, 1) := by decide +kernel
theorem d_M_grow_14 : decode c_M_grow 14 = .ok (.iaload, 1) := by decide +kernel
theorem d_M_grow_15 : decode c_M_grow 15 = .ok (.if_icmp .lt 10, 3) := by decide +kernel
theorem d_M_grow_18 : decode c_M_grow 18 = .ok (.lload 6, 2) := by decide +kernel
theorem d_M_grow_20 : decode c_M_grow 20 = .ok (.lconst 0, 1) := by decide +kernel
theorem d_M_grow_21 : decode c_M_grow 21 = .ok (.lcmp, 1) := by decide +kernel
theorem d_M_grow_22 : decode c_M_grow 22 = .ok (.ifCond .le 83, 3) := by decide +kernel
theorem d_M_grow_25 : decode c_M_grow 25 = .ok (.lload 6, 2) := by decide +kernel
theorem d_M_grow_27 : decode c_M_grow 27 = .ok (.lload_n 2, 1) := by decide +kernel
theorem d_M_grow_28 : decode c_M_grow 28 = .ok (.aload_n 0, 1) := by decide +kernel
theorem d_M_grow_29 : decode c_M_grow 29 = .ok (.iload_n 1, 1) := by decide +kernel
theorem d_M_grow_30 : decode c_M_grow 30 = .ok (.iload 8, 2) := by decide +kernel
theorem d_M_grow_32 : decode c_M_grow 32 = .ok (.invokevirtual 34, 3) := by decide +kernel
theorem d_M_grow_35 : decode c_M_grow 35 = .ok (.i2l, 1) := by decide +kernel
theorem d_M_grow_36 : decode c_M_grow 36 = .ok (.lmul, 1) := by decide +kernel
theorem d_M_grow_37 : decode c_M_grow 37 = .ok (.ladd, 1) := by decide +kernel
theorem d_M_grow_38 : decode c_M_grow 38 = .ok (.lstore 6, 2) := by decide +kernel
theorem d_M_grow_40 : decode c_M_grow 40 = .ok (.aload_n 0, 1) := by decide +kernel
theorem d_M_grow_41 : decode c_M_grow 41 = .ok (.getfield 7, 3) := by decide +kernel
theorem d_M_grow_44 : decode c_M_grow 44 = .ok (.sipush 2800, 3) := by decide +kernel
theorem d_M_grow_47 : decode c_M_grow 47 = .ok (.iload_n 1, 1) := by decide +kernel
theorem d_M_grow_48 : decode c_M_grow 48 = .ok (.imul, 1) := by decide +kernel
theorem d_M_grow_49 : decode c_M_grow 49 = .ok (.iload 8, 2) := by decide +kernel
theorem d_M_grow_51 : decode c_M_grow 51 = .ok (.iadd, 1) := by decide +kernel
theorem d_M_grow_52 : decode c_M_grow 52 = .ok (.lload 6, 2) := by decide +kernel
theorem d_M_grow_54 : decode c_M_grow 54 = .ok (.ldc2_w 32, 3) := by decide +kernel
theorem d_M_grow_57 : decode c_M_grow 57 = .ok (.land, 1) := by decide +kernel
theorem d_M_grow_58 : decode c_M_grow 58 = .ok (.l2i, 1) := by decide +kernel
theorem d_M_grow_59 : decode c_M_grow 59 = .ok (.iastore, 1) := by decide +kernel
theorem d_M_grow_60 : decode c_M_grow 60 = .ok (.aload_n 0, 1) := by decide +kernel
theorem d_M_grow_61 : decode c_M_grow 61 = .ok (.getfield 13, 3) := by decide +kernel
theorem d_M_grow_64 : decode c_M_grow 64 = .ok (.iload_n 1, 1) := by decide +kernel
theorem d_M_grow_65 : decode c_M_grow 65 = .ok (.iload 8, 2) := by decide +kernel
theorem d_M_grow_67 : decode c_M_grow 67 = .ok (.iconst 1, 1) := by decide +kernel
theorem d_M_grow_68 : decode c_M_grow 68 = .ok (.iadd, 1) := by decide +kernel
theorem d_M_grow_69 : decode c_M_grow 69 = .ok (.aload_n 0, 1) := by decide +kernel
theorem d_M_grow_70 : decode c_M_grow 70 = .ok (.getfield 13, 3) := by decide +kernel
theorem d_M_grow_73 : decode c_M_grow 73 = .ok (.iload_n 1, 1) := by decide +kernel
theorem d_M_grow_74 : decode c_M_grow 74 = .ok (.iaload, 1) := by decide +kernel
theorem d_M_grow_75 : decode c_M_grow 75 = .ok (.if_icmp .le 10, 3) := by decide +kernel
theorem d_M_grow_78 : decode c_M_grow 78 = .ok (.iload 8, 2) := by decide +kernel
theorem d_M_grow_80 : decode c_M_grow 80 = .ok (.iconst 1, 1) := by decide +kernel
theorem d_M_grow_81 : decode c_M_grow 81 = .ok (.iadd, 1) := by decide +kernel
theorem d_M_grow_82 : decode c_M_grow 82 = .ok (.goto 9, 3) := by decide +kernel
theorem d_M_grow_85 : decode c_M_grow 85 = .ok (.aload_n 0, 1) := by decide +kernel
theorem d_M_grow_86 : decode c_M_grow 86 = .ok (.getfield 13, 3) := by decide +kernel
theorem d_M_grow_89 : decode c_M_grow 89 = .ok (.iload_n 1, 1) := by decide +kernel
theorem d_M_grow_90 : decode c_M_grow 90 = .ok (.iaload, 1) := by decide +kernel
theorem d_M_grow_91 : decode c_M_grow 91 = .ok (.iastore, 1) := by decide +kernel
theorem d_M_grow_92 : decode c_M_grow 92 = .ok (.lload 6, 2) := by decide +kernel
theorem d_M_grow_94 : decode c_M_grow 94 = .ok (.bipush 15, 2) := by decide +kernel
theorem d_M_grow_96 : decode c_M_grow 96 = .ok (.lshr, 1) := by decide +kernel
theorem d_M_grow_97 : decode c_M_grow 97 = .ok (.lstore 6, 2) := by decide +kernel
theorem d_M_grow_99 : decode c_M_grow 99 = .ok (.iinc 8 1, 3) := by decide +kernel
theorem d_M_grow_102 : decode c_M_grow 102 = .ok (.goto (-95), 3) := by decide +kernel
theorem d_M_grow_105 : decode c_M_grow 105 = .ok (.aload_n 0, 1) := by decide +kernel
theorem d_M_grow_106 : decode c_M_grow 106 = .ok (.iload_n 1, 1) := by decide +kernel
theorem d_M_grow_107 : decode c_M_grow 107 = .ok (.invokevirtual 38, 3) := by decide +kernel
theorem d_M_grow_110 : decode c_M_grow 110 = .ok (.return_, 1) := by decide +kernel
theorem d_M_at_0 : decode c_M_at 0 = .ok (.iload_n 2, 1) := by decide +kernel
theorem d_M_at_1 : decode c_M_at 1 = .ok (.ifCond .lt 28, 3) := by decide +kernel
theorem d_M_at_4 : decode c_M_at 4 = .ok (.iload_n 2, 1) := by decide +kernel
theorem d_M_at_5 : decode c_M_at 5 = .ok (.aload_n 0, 1) := by decide +kernel
theorem d_M_at_6 : decode c_M_at 6 = .ok (.getfield 13, 3) := by decide +kernel
theorem d_M_at_9 : decode c_M_at 9 = .ok (.iload_n 1, 1) := by decide +kernel
theorem d_M_at_10 : decode c_M_at 10 = .ok (.iaload, 1) := by decide +kernel
theorem d_M_at_11 : decode c_M_at 11 = .ok (.if_icmp .ge 18, 3) := by decide +kernel
theorem d_M_at_14 : decode c_M_at 14 = .ok (.aload_n 0, 1) := by decide +kernel
theorem d_M_at_15 : decode c_M_at 15 = .ok (.getfield 7, 3) := by decide +kernel
theorem d_M_at_18 : decode c_M_at 18 = .ok (.sipush 2800, 3) := by decide +kernel
theorem d_M_at_21 : decode c_M_at 21 = .ok (.iload_n 1, 1) := by decide +kernel
theorem d_M_at_22 : decode c_M_at 22 = .ok (.imul, 1) := by decide +kernel
theorem d_M_at_23 : decode c_M_at 23 = .ok (.iload_n 2, 1) := by decide +kernel
theorem d_M_at_24 : decode c_M_at 24 = .ok (.iadd, 1) := by decide +kernel
theorem d_M_at_25 : decode c_M_at 25 = .ok (.iaload, 1) := by decide +kernel
theorem d_M_at_26 : decode c_M_at 26 = .ok (.goto 4, 3) := by decide +kernel
theorem d_M_at_29 : decode c_M_at 29 = .ok (.iconst 0, 1) := by decide +kernel
theorem d_M_at_30 : decode c_M_at 30 = .ok (.ireturn, 1) := by decide +kernel
theorem d_M_trim_0 : decode c_M_trim 0 = .ok (.aload_n 0, 1) := by decide +kernel
theorem d_M_trim_1 : decode c_M_trim 1 = .ok (.getfield 13, 3) := by decide +kernel
theorem d_M_trim_4 : decode c_M_trim 4 = .ok (.iload_n 1, 1) := by decide +kernel
theorem d_M_trim_5 : decode c_M_trim 5 = .ok (.iaload, 1) := by decide +kernel
theorem d_M_trim_6 : decode c_M_trim 6 = .ok (.ifCond .le 38, 3) := by decide +kernel
theorem d_M_trim_9 : decode c_M_trim 9 = .ok (.aload_n 0, 1) := by decide +kernel
theorem d_M_trim_10 : decode c_M_trim 10 = .ok (.getfield 7, 3) := by decide +kernel
theorem d_M_trim_13 : decode c_M_trim 13 = .ok (.sipush 2800, 3) := by decide +kernel
theorem d_M_trim_16 : decode c_M_trim 16 = .ok (.iload_n 1, 1) := by decide +kernel
theorem d_M_trim_17 : decode c_M_trim 17 = .ok (.imul, 1) := by decide +kernel
theorem d_M_trim_18 : decode c_M_trim 18 = .ok (.aload_n 0, 1) := by decide +kernel
theorem d_M_trim_19 : decode c_M_trim 19 = .ok (.getfield 13, 3) := by decide +kernel
theorem d_M_trim_22 : decode c_M_trim 22 = .ok (.iload_n 1, 1) := by decide +kernel
theorem d_M_trim_23 : decode c_M_trim 23 = .ok (.iaload, 1) := by decide +kernel
theorem d_M_trim_24 : decode c_M_trim 24 = .ok (.iadd, 1) := by decide +kernel
theorem d_M_trim_25 : decode c_M_trim 25 = .ok (.iconst 1, 1) := by decide +kernel
theorem d_M_trim_26 : decode c_M_trim 26 = .ok (.isub, 1) := by decide +kernel
theorem d_M_trim_27 : decode c_M_trim 27 = .ok (.iaload, 1) := by decide +kernel
theorem d_M_trim_28 : decode c_M_trim 28 = .ok (.ifCond .ne 16, 3) := by decide +kernel
theorem d_M_trim_31 : decode c_M_trim 31 = .ok (.aload_n 0, 1) := by decide +kernel
theorem d_M_trim_32 : decode c_M_trim 32 = .ok (.getfield 13, 3) := by decide +kernel
theorem d_M_trim_35 : decode c_M_trim 35 = .ok (.iload_n 1, 1) := by decide +kernel
theorem d_M_trim_36 : decode c_M_trim 36 = .ok (.dup2, 1) := by decide +kernel
theorem d_M_trim_37 : decode c_M_trim 37 = .ok (.iaload, 1) := by decide +kernel
theorem d_M_trim_38 : decode c_M_trim 38 = .ok (.iconst 1, 1) := by decide +kernel
theorem d_M_trim_39 : decode c_M_trim 39 = .ok (.isub, 1) := by decide +kernel
theorem d_M_trim_40 : decode c_M_trim 40 = .ok (.iastore, 1) := by decide +kernel
theorem d_M_trim_41 : decode c_M_trim 41 = .ok (.goto (-41), 3) := by decide +kernel
theorem d_M_trim_44 : decode c_M_trim 44 = .ok (.return_, 1) := by decide +kernel
theorem d_M_rootOf_0 : decode c_M_rootOf 0 = .ok (.aload_n 0, 1) := by decide +kernel
theorem d_M_rootOf_1 : decode c_M_rootOf 1 = .ok (.getfield 13, 3) := by decide +kernel
theorem d_M_rootOf_4 : decode c_M_rootOf 4 = .ok (.bipush 7, 2) := by decide +kernel
theorem d_M_rootOf_6 : decode c_M_rootOf 6 = .ok (.iconst 0, 1) := by decide +kernel
theorem d_M_rootOf_7 : decode c_M_rootOf 7 = .ok (.iastore, 1) := by decide +kernel
theorem d_M_rootOf_8 : decode c_M_rootOf 8 = .ok (.aload_n 0, 1) := by decide +kernel
theorem d_M_rootOf_9 : decode c_M_rootOf 9 = .ok (.getfield 13, 3) := by decide +kernel
theorem d_M_rootOf_12 : decode c_M_rootOf 12 = .ok (.iload_n 1, 1) := by decide +kernel
theorem d_M_rootOf_13 : decode c_M_rootOf 13 = .ok (.iconst 0, 1) := by decide +kernel
theorem d_M_rootOf_14 : decode c_M_rootOf 14 = .ok (.iastore, 1) := by decide +kernel
theorem d_M_rootOf_15 : decode c_M_rootOf 15 = .ok (.aload_n 0, 1) := by decide +kernel
theorem d_M_rootOf_16 : decode c_M_rootOf 16 = .ok (.getfield 13, 3) := by decide +kernel
theorem d_M_rootOf_19 : decode c_M_rootOf 19 = .ok (.iload_n 2, 1) := by decide +kernel
theorem d_M_rootOf_20 : decode c_M_rootOf 20 = .ok (.iaload, 1) := by decide +kernel
theorem d_M_rootOf_21 : decode c_M_rootOf 21 = .ok (.iconst 1, 1) := by decide +kernel
theorem d_M_rootOf_22 : decode c_M_rootOf 22 = .ok (.iadd, 1) := by decide +kernel
theorem d_M_rootOf_23 : decode c_M_rootOf 23 = .ok (.iconst 2, 1) := by decide +kernel
theorem d_M_rootOf_24 : decode c_M_rootOf 24 = .ok (.idiv, 1) := by decide +kernel
theorem d_M_rootOf_25 : decode c_M_rootOf 25 = .ok (.iconst 1, 1) := by decide +kernel
theorem d_M_rootOf_26 : decode c_M_rootOf 26 = .ok (.isub, 1) := by decide +kernel
theorem d_M_rootOf_27 : decode c_M_rootOf 27 = .ok (.istore_n 3, 1) := by decide +kernel
theorem d_M_rootOf_28 : decode c_M_rootOf 28 = .ok (.iload_n 3, 1) := by decide +kernel
theorem d_M_rootOf_29 : decode c_M_rootOf 29 = .ok (.ifCond .lt 222, 3) := by decide +kernel
theorem d_M_rootOf_32 : decode c_M_rootOf 32 = .ok (.aload_n 0, 1) := by decide +kernel
theorem d_M_rootOf_33 : decode c_M_rootOf 33 = .ok (.bipush 7, 2) := by decide +kernel
theorem d_M_rootOf_35 : decode c_M_rootOf 35 = .ok (.ldc2_w 54, 3) := by decide +kernel
theorem d_M_rootOf_38 : decode c_M_rootOf 38 = .ok (.aload_n 0, 1) := by decide +kernel
theorem d_M_rootOf_39 : decode c_M_rootOf 39 = .ok (.iload_n 2, 1) := by decide +kernel
theorem d_M_rootOf_40 : decode c_M_rootOf 40 = .ok (.iconst 2, 1) := by decide +kernel
theorem d_M_rootOf_41 : decode c_M_rootOf 41 = .ok (.iload_n 3, 1) := by decide +kernel
theorem d_M_rootOf_42 : decode c_M_rootOf 42 = .ok (.imul, 1) := by decide +kernel
theorem d_M_rootOf_43 : decode c_M_rootOf 43 = .ok (.iconst 1, 1) := by decide +kernel
theorem d_M_rootOf_44 : decode c_M_rootOf 44 = .ok (.iadd, 1) := by decide +kernel
theorem d_M_rootOf_45 : decode c_M_rootOf 45 = .ok (.invokevirtual 34, 3) := by decide +kernel
theorem d_M_rootOf_48 : decode c_M_rootOf 48 = .ok (.i2l, 1) := by decide +kernel
theorem d_M_rootOf_49 : decode c_M_rootOf 49 = .ok (.invokevirtual 60, 3) := by decide +kernel
theorem d_M_rootOf_52 : decode c_M_rootOf 52 = .ok (.aload_n 0, 1) := by decide +kernel
theorem d_M_rootOf_53 : decode c_M_rootOf 53 = .ok (.bipush 7, 2) := by decide +kernel
theorem d_M_rootOf_55 : decode c_M_rootOf 55 = .ok (.ldc2_w 54, 3) := by decide +kernel
theorem d_M_rootOf_58 : decode c_M_rootOf 58 = .ok (.aload_n 0, 1) := by decide +kernel
theorem d_M_rootOf_59 : decode c_M_rootOf 59 = .ok (.iload_n 2, 1) := by decide +kernel
theorem d_M_rootOf_60 : decode c_M_rootOf 60 = .ok (.iconst 2, 1) := by decide +kernel
theorem d_M_rootOf_61 : decode c_M_rootOf 61 = .ok (.iload_n 3, 1) := by decide +kernel
theorem d_M_rootOf_62 : decode c_M_rootOf 62 = .ok (.imul, 1) := by decide +kernel
theorem d_M_rootOf_63 : decode c_M_rootOf 63 = .ok (.invokevirtual 34, 3) := by decide +kernel
theorem d_M_rootOf_66 : decode c_M_rootOf 66 = .ok (.i2l, 1) := by decide +kernel
theorem d_M_rootOf_67 : decode c_M_rootOf 67 = .ok (.invokevirtual 60, 3) := by decide +kernel
theorem d_M_rootOf_70 : decode c_M_rootOf 70 = .ok (.aload_n 0, 1) := by decide +kernel
theorem d_M_rootOf_71 : decode c_M_rootOf 71 = .ok (.iload_n 1, 1) := by decide +kernel
theorem d_M_rootOf_72 : decode c_M_rootOf 72 = .ok (.iconst 1, 1) := by decide +kernel
theorem d_M_rootOf_73 : decode c_M_rootOf 73 = .ok (.invokevirtual 46, 3) := by decide +kernel
theorem d_M_rootOf_76 : decode c_M_rootOf 76 = .ok (.aload_n 0, 1) := by decide +kernel
theorem d_M_rootOf_77 : decode c_M_rootOf 77 = .ok (.bipush 8, 2) := by decide +kernel
theorem d_M_rootOf_79 : decode c_M_rootOf 79 = .ok (.iload_n 1, 1) := by decide +kernel
theorem d_M_rootOf_80 : decode c_M_rootOf 80 = .ok (.invokevirtual 70, 3) := by decide +kernel
theorem d_M_rootOf_83 : decode c_M_rootOf 83 = .ok (.aload_n 0, 1) := by decide +kernel
theorem d_M_rootOf_84 : decode c_M_rootOf 84 = .ok (.bipush 8, 2) := by decide +kernel
theorem d_M_rootOf_86 : decode c_M_rootOf 86 = .ok (.ldc2_w 73, 3) := by decide +kernel
theorem d_M_rootOf_89 : decode c_M_rootOf 89 = .ok (.lconst 0, 1) := by decide +kernel
theorem d_M_rootOf_90 : decode c_M_rootOf 90 = .ok (.invokevirtual 60, 3) := by decide +kernel
theorem d_M_rootOf_93 : decode c_M_rootOf 93 = .ok (.aload_n 0, 1) := by decide +kernel
theorem d_M_rootOf_94 : decode c_M_rootOf 94 = .ok (.getfield 13, 3) := by decide +kernel
theorem d_M_rootOf_97 : decode c_M_rootOf 97 = .ok (.bipush 8, 2) := by decide +kernel
theorem d_M_rootOf_99 : decode c_M_rootOf 99 = .ok (.iaload, 1) := by decide +kernel
theorem d_M_rootOf_100 : decode c_M_rootOf 100 = .ok (.ifCond .ne 9, 3) := by decide +kernel
theorem d_M_rootOf_103 : decode c_M_rootOf 103 = .ok (.ldc2_w 32, 3) := by decide +kernel
theorem d_M_rootOf_106 : decode c_M_rootOf 106 = .ok (.goto 42, 3) := by decide +kernel
theorem d_M_rootOf_109 : decode c_M_rootOf 109 = .ok (.aload_n 0, 1) := by decide +kernel
theorem d_M_rootOf_110 : decode c_M_rootOf 110 = .ok (.bipush 7, 2) := by decide +kernel
theorem d_M_rootOf_112 : decode c_M_rootOf 112 = .ok (.aload_n 0, 1) := by decide +kernel
theorem d_M_rootOf_113 : decode c_M_rootOf 113 = .ok (.getfield 13, 3) := by decide +kernel
theorem d_M_rootOf_116 : decode c_M_rootOf 116 = .ok (.bipush 8, 2) := by decide +kernel
theorem d_M_rootOf_118 : decode c_M_rootOf 118 = .ok (.iaload, 1) := by decide +kernel
theorem d_M_rootOf_119 : decode c_M_rootOf 119 = .ok (.invokevirtual 56, 3) := by decide +kernel
theorem d_M_rootOf_122 : decode c_M_rootOf 122 = .ok (.aload_n 0, 1) := by decide +kernel
theorem d_M_rootOf_123 : decode c_M_rootOf 123 = .ok (.bipush 8, 2) := by decide +kernel
theorem d_M_rootOf_125 : decode c_M_rootOf 125 = .ok (.aload_n 0, 1) := by decide +kernel
theorem d_M_rootOf_126 : decode c_M_rootOf 126 = .ok (.getfield 13, 3) := by decide +kernel
theorem d_M_rootOf_129 : decode c_M_rootOf 129 = .ok (.bipush 8, 2) := by decide +kernel
theorem d_M_rootOf_131 : decode c_M_rootOf 131 = .ok (.iaload, 1) := by decide +kernel
theorem d_M_rootOf_132 : decode c_M_rootOf 132 = .ok (.iconst 1, 1) := by decide +kernel
theorem d_M_rootOf_133 : decode c_M_rootOf 133 = .ok (.isub, 1) := by decide +kernel
theorem d_M_rootOf_134 : decode c_M_rootOf 134 = .ok (.invokevirtual 56, 3) := by decide +kernel
theorem d_M_rootOf_137 : decode c_M_rootOf 137 = .ok (.ldc2_w 54, 3) := by decide +kernel
theorem d_M_rootOf_140 : decode c_M_rootOf 140 = .ok (.ldiv, 1) := by decide +kernel
theorem d_M_rootOf_141 : decode c_M_rootOf 141 = .ok (.lconst 1, 1) := by decide +kernel
theorem d_M_rootOf_142 : decode c_M_rootOf 142 = .ok (.ladd, 1) := by decide +kernel
theorem d_M_rootOf_143 : decode c_M_rootOf 143 = .ok (.ldiv, 1) := by decide +kernel
theorem d_M_rootOf_144 : decode c_M_rootOf 144 = .ok (.ldc2_w 75, 3) := by decide +kernel
theorem d_M_rootOf_147 : decode c_M_rootOf 147 = .ok (.ladd, 1) := by decide +kernel
theorem d_M_rootOf_148 : decode c_M_rootOf 148 = .ok (.lstore 4, 2) := by decide +kernel
theorem d_M_rootOf_150 : decode c_M_rootOf 150 = .ok (.lload 4, 2) := by decide +kernel
theorem d_M_rootOf_152 : decode c_M_rootOf 152 = .ok (.ldc2_w 32, 3) := by decide +kernel
theorem d_M_rootOf_155 : decode c_M_rootOf 155 = .ok (.lcmp, 1) := by decide +kernel
theorem d_M_rootOf_156 : decode c_M_rootOf 156 = .ok (.ifCond .le 9, 3) := by decide +kernel
theorem d_M_rootOf_159 : decode c_M_rootOf 159 = .ok (.ldc2_w 32, 3) := by decide +kernel
theorem d_M_rootOf_162 : decode c_M_rootOf 162 = .ok (.goto 5, 3) := by decide +kernel
theorem d_M_rootOf_165 : decode c_M_rootOf 165 = .ok (.lload 4, 2) := by decide +kernel
theorem d_M_rootOf_167 : decode c_M_rootOf 167 = .ok (.lstore 4, 2) := by decide +kernel
theorem d_M_rootOf_169 : decode c_M_rootOf 169 = .ok (.aload_n 0, 1) := by decide +kernel
theorem d_M_rootOf_170 : decode c_M_rootOf 170 = .ok (.aload_n 0, 1) := by decide +kernel
theorem d_M_rootOf_171 : decode c_M_rootOf 171 = .ok (.getfield 13, 3) := by decide +kernel
theorem d_M_rootOf_174 : decode c_M_rootOf 174 = .ok (.bipush 8, 2) := by decide +kernel
theorem d_M_rootOf_176 : decode c_M_rootOf 176 = .ok (.iaload, 1) := by decide +kernel
theorem d_M_rootOf_177 : decode c_M_rootOf 177 = .ok (.iconst 5, 1) := by decide +kernel
theorem d_M_rootOf_178 : decode c_M_rootOf 178 = .ok (.if_icmp .lt 12, 3) := by decide +kernel
theorem d_M_rootOf_181 : decode c_M_rootOf 181 = .ok (.lload 4, 2) := by decide +kernel
theorem d_M_rootOf_183 : decode c_M_rootOf 183 = .ok (.ldc2_w 77, 3) := by decide +kernel
theorem d_M_rootOf_186 : decode c_M_rootOf 186 = .ok (.lcmp, 1) := by decide +kernel
theorem d_M_rootOf_187 : decode c_M_rootOf 187 = .ok (.ifCond .ge 7, 3) := by decide +kernel
theorem d_M_rootOf_190 : decode c_M_rootOf 190 = .ok (.lconst 0, 1) := by decide +kernel
theorem d_M_rootOf_191 : decode c_M_rootOf 191 = .ok (.goto 9, 3) := by decide +kernel
theorem d_M_rootOf_194 : decode c_M_rootOf 194 = .ok (.lload 4, 2) := by decide +kernel
theorem d_M_rootOf_196 : decode c_M_rootOf 196 = .ok (.ldc2_w 77, 3) := by decide +kernel
theorem d_M_rootOf_199 : decode c_M_rootOf 199 = .ok (.lsub, 1) := by decide +kernel
theorem d_M_rootOf_200 : decode c_M_rootOf 200 = .ok (.lload 4, 2) := by decide +kernel
theorem d_M_rootOf_202 : decode c_M_rootOf 202 = .ok (.invokevirtual 79, 3) := by decide +kernel
theorem d_M_rootOf_205 : decode c_M_rootOf 205 = .ok (.lstore 6, 2) := by decide +kernel
theorem d_M_rootOf_207 : decode c_M_rootOf 207 = .ok (.aload_n 0, 1) := by decide +kernel
theorem d_M_rootOf_208 : decode c_M_rootOf 208 = .ok (.bipush 9, 2) := by decide +kernel
theorem d_M_rootOf_210 : decode c_M_rootOf 210 = .ok (.lload 6, 2) := by decide +kernel
theorem d_M_rootOf_212 : decode c_M_rootOf 212 = .ok (.lload 6, 2) := by decide +kernel
theorem d_M_rootOf_214 : decode c_M_rootOf 214 = .ok (.lmul, 1) := by decide +kernel
theorem d_M_rootOf_215 : decode c_M_rootOf 215 = .ok (.invokevirtual 83, 3) := by decide +kernel
theorem d_M_rootOf_218 : decode c_M_rootOf 218 = .ok (.aload_n 0, 1) := by decide +kernel
theorem d_M_rootOf_219 : decode c_M_rootOf 219 = .ok (.bipush 7, 2) := by decide +kernel
theorem d_M_rootOf_221 : decode c_M_rootOf 221 = .ok (.bipush 8, 2) := by decide +kernel
theorem d_M_rootOf_223 : decode c_M_rootOf 223 = .ok (.lload 6, 2) := by decide +kernel
theorem d_M_rootOf_225 : decode c_M_rootOf 225 = .ok (.invokevirtual 64, 3) := by decide +kernel
theorem d_M_rootOf_228 : decode c_M_rootOf 228 = .ok (.aload_n 0, 1) := by decide +kernel
theorem d_M_rootOf_229 : decode c_M_rootOf 229 = .ok (.bipush 7, 2) := by decide +kernel
theorem d_M_rootOf_231 : decode c_M_rootOf 231 = .ok (.bipush 9, 2) := by decide +kernel
theorem d_M_rootOf_233 : decode c_M_rootOf 233 = .ok (.lconst 1, 1) := by decide +kernel
theorem d_M_rootOf_234 : decode c_M_rootOf 234 = .ok (.invokevirtual 64, 3) := by decide +kernel
theorem d_M_rootOf_237 : decode c_M_rootOf 237 = .ok (.aload_n 0, 1) := by decide +kernel
theorem d_M_rootOf_238 : decode c_M_rootOf 238 = .ok (.iload_n 1, 1) := by decide +kernel
theorem d_M_rootOf_239 : decode c_M_rootOf 239 = .ok (.lconst 1, 1) := by decide +kernel
theorem d_M_rootOf_240 : decode c_M_rootOf 240 = .ok (.lload 6, 2) := by decide +kernel
theorem d_M_rootOf_242 : decode c_M_rootOf 242 = .ok (.invokevirtual 60, 3) := by decide +kernel
theorem d_M_rootOf_245 : decode c_M_rootOf 245 = .ok (.iinc 3 (-1), 3) := by decide +kernel
theorem d_M_rootOf_248 : decode c_M_rootOf 248 = .ok (.goto (-220), 3) := by decide +kernel
theorem d_M_rootOf_251 : decode c_M_rootOf 251 = .ok (.return_, 1) := by decide +kernel
theorem d_M_shift_0 : decode c_M_shift 0 = .ok (.aload_n 0, 1) := by decide +kernel
theorem d_M_shift_1 : decode c_M_shift 1 = .ok (.getfield 13, 3) := by decide +kernel
theorem d_M_shift_4 : decode c_M_shift 4 = .ok (.iload_n 1, 1) := by decide +kernel
theorem d_M_shift_5 : decode c_M_shift 5 = .ok (.iaload, 1) := by decide +kernel
theorem d_M_shift_6 : decode c_M_shift 6 = .ok (.istore_n 3, 1) := by decide +kernel
theorem d_M_shift_7 : decode c_M_shift 7 = .ok (.iconst 0, 1) := by decide +kernel
theorem d_M_shift_8 : decode c_M_shift 8 = .ok (.istore 4, 2) := by decide +kernel
theorem d_M_shift_10 : decode c_M_shift 10 = .ok (.iload 4, 2) := by decide +kernel
theorem d_M_shift_12 : decode c_M_shift 12 = .ok (.iload_n 3, 1) := by decide +kernel
theorem d_M_shift_13 : decode c_M_shift 13 = .ok (.if_icmp .ge 61, 3) := by decide +kernel
theorem d_M_shift_16 : decode c_M_shift 16 = .ok (.iload_n 2, 1) := by decide +kernel
theorem d_M_shift_17 : decode c_M_shift 17 = .ok (.ifCond .le 12, 3) := by decide +kernel
theorem d_M_shift_20 : decode c_M_shift 20 = .ok (.iload_n 3, 1) := by decide +kernel
theorem d_M_shift_21 : decode c_M_shift 21 = .ok (.iconst 1, 1) := by decide +kernel
theorem d_M_shift_22 : decode c_M_shift 22 = .ok (.isub, 1) := by decide +kernel
theorem d_M_shift_23 : decode c_M_shift 23 = .ok (.iload 4, 2) := by decide +kernel
theorem d_M_shift_25 : decode c_M_shift 25 = .ok (.isub, 1) := by decide +kernel
theorem d_M_shift_26 : decode c_M_shift 26 = .ok (.goto 5, 3) := by decide +kernel
theorem d_M_shift_29 : decode c_M_shift 29 = .ok (.iload 4, 2) := by decide +kernel
theorem d_M_shift_31 : decode c_M_shift 31 = .ok (.istore 5, 2) := by decide +kernel
theorem d_M_shift_33 : decode c_M_shift 33 = .ok (.iload 5, 2) := by decide +kernel
theorem d_M_shift_35 : decode c_M_shift 35 = .ok (.iload_n 2, 1) := by decide +kernel
theorem d_M_shift_36 : decode c_M_shift 36 = .ok (.iadd, 1) := by decide +kernel
theorem d_M_shift_37 : decode c_M_shift 37 = .ok (.ifCond .lt 31, 3) := by decide +kernel
theorem d_M_shift_40 : decode c_M_shift 40 = .ok (.aload_n 0, 1) := by decide +kernel
theorem d_M_shift_41 : decode c_M_shift 41 = .ok (.getfield 7, 3) := by decide +kernel
theorem d_M_shift_44 : decode c_M_shift 44 = .ok (.sipush 2800, 3) := by decide +kernel
theorem d_M_shift_47 : decode c_M_shift 47 = .ok (.iload_n 1, 1) := by decide +kernel
theorem d_M_shift_48 : decode c_M_shift 48 = .ok (.imul, 1) := by decide +kernel
theorem d_M_shift_49 : decode c_M_shift 49 = .ok (.iload 5, 2) := by decide +kernel
theorem d_M_shift_51 : decode c_M_shift 51 = .ok (.iadd, 1) := by decide +kernel
theorem d_M_shift_52 : decode c_M_shift 52 = .ok (.iload_n 2, 1) := by decide +kernel
theorem d_M_shift_53 : decode c_M_shift 53 = .ok (.iadd, 1) := by decide +kernel
theorem d_M_shift_54 : decode c_M_shift 54 = .ok (.aload_n 0, 1) := by decide +kernel
theorem d_M_shift_55 : decode c_M_shift 55 = .ok (.getfield 7, 3) := by decide +kernel
theorem d_M_shift_58 : decode c_M_shift 58 = .ok (.sipush 2800, 3) := by decide +kernel
theorem d_M_shift_61 : decode c_M_shift 61 = .ok (.iload_n 1, 1) := by decide +kernel
theorem d_M_shift_62 : decode c_M_shift 62 = .ok (.imul, 1) := by decide +kernel
theorem d_M_shift_63 : decode c_M_shift 63 = .ok (.iload 5, 2) := by decide +kernel
theorem d_M_shift_65 : decode c_M_shift 65 = .ok (.iadd, 1) := by decide +kernel
theorem d_M_shift_66 : decode c_M_shift 66 = .ok (.iaload, 1) := by decide +kernel
theorem d_M_shift_67 : decode c_M_shift 67 = .ok (.iastore, 1) := by decide +kernel
theorem d_M_shift_68 : decode c_M_shift 68 = .ok (.iinc 4 1, 3) := by decide +kernel
theorem d_M_shift_71 : decode c_M_shift 71 = .ok (.goto (-61), 3) := by decide +kernel
theorem d_M_shift_74 : decode c_M_shift 74 = .ok (.iconst 0, 1) := by decide +kernel
theorem d_M_shift_75 : decode c_M_shift 75 = .ok (.istore 4, 2) := by decide +kernel
theorem d_M_shift_77 : decode c_M_shift 77 = .ok (.iload 4, 2) := by decide +kernel
theorem d_M_shift_79 : decode c_M_shift 79 = .ok (.iload_n 2, 1) := by decide +kernel
theorem d_M_shift_80 : decode c_M_shift 80 = .ok (.if_icmp .ge 27, 3) := by decide +kernel
theorem d_M_shift_83 : decode c_M_shift 83 = .ok (.iload_n 3, 1) := by decide +kernel
theorem d_M_shift_84 : decode c_M_shift 84 = .ok (.ifCond .le 23, 3) := by decide +kernel
theorem d_M_shift_87 : decode c_M_shift 87 = .ok (.aload_n 0, 1) := by decide +kernel
theorem d_M_shift_88 : decode c_M_shift 88 = .ok (.getfield 7, 3) := by decide +kernel
theorem d_M_shift_91 : decode c_M_shift 91 = .ok (.sipush 2800, 3) := by decide +kernel
theorem d_M_shift_94 : decode c_M_shift 94 = .ok (.iload_n 1, 1) := by decide +kernel
theorem d_M_shift_95 : decode c_M_shift 95 = .ok (.imul, 1) := by decide +kernel
theorem d_M_shift_96 : decode c_M_shift 96 = .ok (.iload 4, 2) := by decide +kernel
theorem d_M_shift_98 : decode c_M_shift 98 = .ok (.iadd, 1) := by decide +kernel
theorem d_M_shift_99 : decode c_M_shift 99 = .ok (.iconst 0, 1) := by decide +kernel
theorem d_M_shift_100 : decode c_M_shift 100 = .ok (.iastore, 1) := by decide +kernel
theorem d_M_shift_101 : decode c_M_shift 101 = .ok (.iinc 4 1, 3) := by decide +kernel
theorem d_M_shift_104 : decode c_M_shift 104 = .ok (.goto (-27), 3) := by decide +kernel
theorem d_M_shift_107 : decode c_M_shift 107 = .ok (.aload_n 0, 1) := by decide +kernel
theorem d_M_shift_108 : decode c_M_shift 108 = .ok (.getfield 13, 3) := by decide +kernel
theorem d_M_shift_111 : decode c_M_shift 111 = .ok (.iload_n 1, 1) := by decide +kernel
theorem d_M_shift_112 : decode c_M_shift 112 = .ok (.iload_n 3, 1) := by decide +kernel
theorem d_M_shift_113 : decode c_M_shift 113 = .ok (.ifCond .eq 9, 3) := by decide +kernel
theorem d_M_shift_116 : decode c_M_shift 116 = .ok (.iload_n 3, 1) := by decide +kernel
theorem d_M_shift_117 : decode c_M_shift 117 = .ok (.iload_n 2, 1) := by decide +kernel
theorem d_M_shift_118 : decode c_M_shift 118 = .ok (.iadd, 1) := by decide +kernel
theorem d_M_shift_119 : decode c_M_shift 119 = .ok (.ifCond .ge 7, 3) := by decide +kernel
theorem d_M_shift_122 : decode c_M_shift 122 = .ok (.iconst 0, 1) := by decide +kernel
theorem d_M_shift_123 : decode c_M_shift 123 = .ok (.goto 6, 3) := by decide +kernel
theorem d_M_shift_126 : decode c_M_shift 126 = .ok (.iload_n 3, 1) := by decide +kernel
theorem d_M_shift_127 : decode c_M_shift 127 = .ok (.iload_n 2, 1) := by decide +kernel
theorem d_M_shift_128 : decode c_M_shift 128 = .ok (.iadd, 1) := by decide +kernel
theorem d_M_shift_129 : decode c_M_shift 129 = .ok (.iastore, 1) := by decide +kernel
theorem d_M_shift_130 : decode c_M_shift 130 = .ok (.aload_n 0, 1) := by decide +kernel
theorem d_M_shift_131 : decode c_M_shift 131 = .ok (.iload_n 1, 1) := by decide +kernel
theorem d_M_shift_132 : decode c_M_shift 132 = .ok (.invokevirtual 38, 3) := by decide +kernel
theorem d_M_shift_135 : decode c_M_shift 135 = .ok (.return_, 1) := by decide +kernel
theorem d_M_copy_0 : decode c_M_copy 0 = .ok (.iconst 0, 1) := by decide +kernel
theorem d_M_copy_1 : decode c_M_copy 1 = .ok (.istore_n 3, 1) := by decide +kernel
theorem d_M_copy_2 : decode c_M_copy 2 = .ok (.iload_n 3, 1) := by decide +kernel
theorem d_M_copy_3 : decode c_M_copy 3 = .ok (.aload_n 0, 1) := by decide +kernel
theorem d_M_copy_4 : decode c_M_copy 4 = .ok (.getfield 13, 3) := by decide +kernel
theorem d_M_copy_7 : decode c_M_copy 7 = .ok (.iload_n 2, 1) := by decide +kernel
theorem d_M_copy_8 : decode c_M_copy 8 = .ok (.iaload, 1) := by decide +kernel
theorem d_M_copy_9 : decode c_M_copy 9 = .ok (.if_icmp .ge 33, 3) := by decide +kernel
theorem d_M_copy_12 : decode c_M_copy 12 = .ok (.aload_n 0, 1) := by decide +kernel
theorem d_M_copy_13 : decode c_M_copy 13 = .ok (.getfield 7, 3) := by decide +kernel
theorem d_M_copy_16 : decode c_M_copy 16 = .ok (.sipush 2800, 3) := by decide +kernel
theorem d_M_copy_19 : decode c_M_copy 19 = .ok (.iload_n 1, 1) := by decide +kernel
theorem d_M_copy_20 : decode c_M_copy 20 = .ok (.imul, 1) := by decide +kernel
theorem d_M_copy_21 : decode c_M_copy 21 = .ok (.iload_n 3, 1) := by decide +kernel
theorem d_M_copy_22 : decode c_M_copy 22 = .ok (.iadd, 1) := by decide +kernel
theorem d_M_copy_23 : decode c_M_copy 23 = .ok (.aload_n 0, 1) := by decide +kernel
theorem d_M_copy_24 : decode c_M_copy 24 = .ok (.getfield 7, 3) := by decide +kernel
theorem d_M_copy_27 : decode c_M_copy 27 = .ok (.sipush 2800, 3) := by decide +kernel
theorem d_M_copy_30 : decode c_M_copy 30 = .ok (.iload_n 2, 1) := by decide +kernel
theorem d_M_copy_31 : decode c_M_copy 31 = .ok (.imul, 1) := by decide +kernel
theorem d_M_copy_32 : decode c_M_copy 32 = .ok (.iload_n 3, 1) := by decide +kernel
theorem d_M_copy_33 : decode c_M_copy 33 = .ok (.iadd, 1) := by decide +kernel
theorem d_M_copy_34 : decode c_M_copy 34 = .ok (.iaload, 1) := by decide +kernel
theorem d_M_copy_35 : decode c_M_copy 35 = .ok (.iastore, 1) := by decide +kernel
theorem d_M_copy_36 : decode c_M_copy 36 = .ok (.iinc 3 1, 3) := by decide +kernel
theorem d_M_copy_39 : decode c_M_copy 39 = .ok (.goto (-37), 3) := by decide +kernel
theorem d_M_copy_42 : decode c_M_copy 42 = .ok (.aload_n 0, 1) := by decide +kernel
theorem d_M_copy_43 : decode c_M_copy 43 = .ok (.getfield 13, 3) := by decide +kernel
theorem d_M_copy_46 : decode c_M_copy 46 = .ok (.iload_n 1, 1) := by decide +kernel
theorem d_M_copy_47 : decode c_M_copy 47 = .ok (.aload_n 0, 1) := by decide +kernel
theorem d_M_copy_48 : decode c_M_copy 48 = .ok (.getfield 13, 3) := by decide +kernel
theorem d_M_copy_51 : decode c_M_copy 51 = .ok (.iload_n 2, 1) := by decide +kernel
theorem d_M_copy_52 : decode c_M_copy 52 = .ok (.iaload, 1) := by decide +kernel
theorem d_M_copy_53 : decode c_M_copy 53 = .ok (.iastore, 1) := by decide +kernel
theorem d_M_copy_54 : decode c_M_copy 54 = .ok (.return_, 1) := by decide +kernel
theorem d_M_leading_0 : decode c_M_leading 0 = .ok (.aload_n 0, 1) := by decide +kernel
theorem d_M_leading_1 : decode c_M_leading 1 = .ok (.iload_n 1, 1) := by decide +kernel
theorem d_M_leading_2 : decode c_M_leading 2 = .ok (.iload_n 2, 1) := by decide +kernel
theorem d_M_leading_3 : decode c_M_leading 3 = .ok (.invokevirtual 34, 3) := by decide +kernel
theorem d_M_leading_6 : decode c_M_leading 6 = .ok (.i2l, 1) := by decide +kernel
theorem d_M_leading_7 : decode c_M_leading 7 = .ok (.ldc2_w 54, 3) := by decide +kernel
theorem d_M_leading_10 : decode c_M_leading 10 = .ok (.lmul, 1) := by decide +kernel
theorem d_M_leading_11 : decode c_M_leading 11 = .ok (.aload_n 0, 1) := by decide +kernel
theorem d_M_leading_12 : decode c_M_leading 12 = .ok (.iload_n 1, 1) := by decide +kernel
theorem d_M_leading_13 : decode c_M_leading 13 = .ok (.iload_n 2, 1) := by decide +kernel
theorem d_M_leading_14 : decode c_M_leading 14 = .ok (.iconst 1, 1) := by decide +kernel
theorem d_M_leading_15 : decode c_M_leading 15 = .ok (.isub, 1) := by decide +kernel
theorem d_M_leading_16 : decode c_M_leading 16 = .ok (.invokevirtual 34, 3) := by decide +kernel
theorem d_M_leading_19 : decode c_M_leading 19 = .ok (.i2l, 1) := by decide +kernel
theorem d_M_leading_20 : decode c_M_leading 20 = .ok (.ladd, 1) := by decide +kernel
theorem d_M_leading_21 : decode c_M_leading 21 = .ok (.ldc2_w 54, 3) := by decide +kernel
theorem d_M_leading_24 : decode c_M_leading 24 = .ok (.lmul, 1) := by decide +kernel
theorem d_M_leading_25 : decode c_M_leading 25 = .ok (.aload_n 0, 1) := by decide +kernel
theorem d_M_leading_26 : decode c_M_leading 26 = .ok (.iload_n 1, 1) := by decide +kernel
theorem d_M_leading_27 : decode c_M_leading 27 = .ok (.iload_n 2, 1) := by decide +kernel
theorem d_M_leading_28 : decode c_M_leading 28 = .ok (.iconst 2, 1) := by decide +kernel
theorem d_M_leading_29 : decode c_M_leading 29 = .ok (.isub, 1) := by decide +kernel
theorem d_M_leading_30 : decode c_M_leading 30 = .ok (.invokevirtual 34, 3) := by decide +kernel
theorem d_M_leading_33 : decode c_M_leading 33 = .ok (.i2l, 1) := by decide +kernel
theorem d_M_leading_34 : decode c_M_leading 34 = .ok (.ladd, 1) := by decide +kernel
theorem d_M_leading_35 : decode c_M_leading 35 = .ok (.ldc2_w 54, 3) := by decide +kernel
theorem d_M_leading_38 : decode c_M_leading 38 = .ok (.lmul, 1) := by decide +kernel
theorem d_M_leading_39 : decode c_M_leading 39 = .ok (.aload_n 0, 1) := by decide +kernel
theorem d_M_leading_40 : decode c_M_leading 40 = .ok (.iload_n 1, 1) := by decide +kernel
theorem d_M_leading_41 : decode c_M_leading 41 = .ok (.iload_n 2, 1) := by decide +kernel
theorem d_M_leading_42 : decode c_M_leading 42 = .ok (.iconst 3, 1) := by decide +kernel
theorem d_M_leading_43 : decode c_M_leading 43 = .ok (.isub, 1) := by decide +kernel
theorem d_M_leading_44 : decode c_M_leading 44 = .ok (.invokevirtual 34, 3) := by decide +kernel
theorem d_M_leading_47 : decode c_M_leading 47 = .ok (.i2l, 1) := by decide +kernel
theorem d_M_leading_48 : decode c_M_leading 48 = .ok (.ladd, 1) := by decide +kernel
theorem d_M_leading_49 : decode c_M_leading 49 = .ok (.lreturn, 1) := by decide +kernel
theorem d_M_greatest_0 : decode c_M_greatest 0 = .ok (.lload_n 1, 1) := by decide +kernel
theorem d_M_greatest_1 : decode c_M_greatest 1 = .ok (.lstore 5, 2) := by decide +kernel
theorem d_M_greatest_3 : decode c_M_greatest 3 = .ok (.lload_n 3, 1) := by decide +kernel
theorem d_M_greatest_4 : decode c_M_greatest 4 = .ok (.lstore 7, 2) := by decide +kernel
theorem d_M_greatest_6 : decode c_M_greatest 6 = .ok (.lload 5, 2) := by decide +kernel
theorem d_M_greatest_8 : decode c_M_greatest 8 = .ok (.lload 7, 2) := by decide +kernel
theorem d_M_greatest_10 : decode c_M_greatest 10 = .ok (.lcmp, 1) := by decide +kernel
theorem d_M_greatest_11 : decode c_M_greatest 11 = .ok (.ifCond .ge 69, 3) := by decide +kernel
theorem d_M_greatest_14 : decode c_M_greatest 14 = .ok (.lload 5, 2) := by decide +kernel
theorem d_M_greatest_16 : decode c_M_greatest 16 = .ok (.lload 7, 2) := by decide +kernel
theorem d_M_greatest_18 : decode c_M_greatest 18 = .ok (.ladd, 1) := by decide +kernel
theorem d_M_greatest_19 : decode c_M_greatest 19 = .ok (.lconst 1, 1) := by decide +kernel
theorem d_M_greatest_20 : decode c_M_greatest 20 = .ok (.ladd, 1) := by decide +kernel
theorem d_M_greatest_21 : decode c_M_greatest 21 = .ok (.ldc2_w 73, 3) := by decide +kernel
theorem d_M_greatest_24 : decode c_M_greatest 24 = .ok (.ldiv, 1) := by decide +kernel
theorem d_M_greatest_25 : decode c_M_greatest 25 = .ok (.lstore 9, 2) := by decide +kernel
theorem d_M_greatest_27 : decode c_M_greatest 27 = .ok (.aload_n 0, 1) := by decide +kernel
theorem d_M_greatest_28 : decode c_M_greatest 28 = .ok (.bipush 9, 2) := by decide +kernel
theorem d_M_greatest_30 : decode c_M_greatest 30 = .ok (.bipush 8, 2) := by decide +kernel
theorem d_M_greatest_32 : decode c_M_greatest 32 = .ok (.invokevirtual 70, 3) := by decide +kernel
theorem d_M_greatest_35 : decode c_M_greatest 35 = .ok (.aload_n 0, 1) := by decide +kernel
theorem d_M_greatest_36 : decode c_M_greatest 36 = .ok (.bipush 9, 2) := by decide +kernel
theorem d_M_greatest_38 : decode c_M_greatest 38 = .ok (.lconst 1, 1) := by decide +kernel
theorem d_M_greatest_39 : decode c_M_greatest 39 = .ok (.lload 9, 2) := by decide +kernel
theorem d_M_greatest_41 : decode c_M_greatest 41 = .ok (.invokevirtual 60, 3) := by decide +kernel
theorem d_M_greatest_44 : decode c_M_greatest 44 = .ok (.aload_n 0, 1) := by decide +kernel
theorem d_M_greatest_45 : decode c_M_greatest 45 = .ok (.bipush 9, 2) := by decide +kernel
theorem d_M_greatest_47 : decode c_M_greatest 47 = .ok (.lload 9, 2) := by decide +kernel
theorem d_M_greatest_49 : decode c_M_greatest 49 = .ok (.lconst 0, 1) := by decide +kernel
theorem d_M_greatest_50 : decode c_M_greatest 50 = .ok (.invokevirtual 60, 3) := by decide +kernel
theorem d_M_greatest_53 : decode c_M_greatest 53 = .ok (.aload_n 0, 1) := by decide +kernel
theorem d_M_greatest_54 : decode c_M_greatest 54 = .ok (.bipush 9, 2) := by decide +kernel
theorem d_M_greatest_56 : decode c_M_greatest 56 = .ok (.bipush 7, 2) := by decide +kernel
theorem d_M_greatest_58 : decode c_M_greatest 58 = .ok (.invokevirtual 67, 3) := by decide +kernel
theorem d_M_greatest_61 : decode c_M_greatest 61 = .ok (.ifCond .gt 10, 3) := by decide +kernel
theorem d_M_greatest_64 : decode c_M_greatest 64 = .ok (.lload 9, 2) := by decide +kernel
theorem d_M_greatest_66 : decode c_M_greatest 66 = .ok (.lstore 5, 2) := by decide +kernel
theorem d_M_greatest_68 : decode c_M_greatest 68 = .ok (.goto 9, 3) := by decide +kernel
theorem d_M_greatest_71 : decode c_M_greatest 71 = .ok (.lload 9, 2) := by decide +kernel
theorem d_M_greatest_73 : decode c_M_greatest 73 = .ok (.lconst 1, 1) := by decide +kernel
theorem d_M_greatest_74 : decode c_M_greatest 74 = .ok (.lsub, 1) := by decide +kernel
theorem d_M_greatest_75 : decode c_M_greatest 75 = .ok (.lstore 7, 2) := by decide +kernel
theorem d_M_greatest_77 : decode c_M_greatest 77 = .ok (.goto (-71), 3) := by decide +kernel
theorem d_M_greatest_80 : decode c_M_greatest 80 = .ok (.lload 5, 2) := by decide +kernel
theorem d_M_greatest_82 : decode c_M_greatest 82 = .ok (.lreturn, 1) := by decide +kernel
theorem d_M_order_0 : decode c_M_order 0 = .ok (.aload_n 0, 1) := by decide +kernel
theorem d_M_order_1 : decode c_M_order 1 = .ok (.getfield 13, 3) := by decide +kernel
theorem d_M_order_4 : decode c_M_order 4 = .ok (.iload_n 1, 1) := by decide +kernel
theorem d_M_order_5 : decode c_M_order 5 = .ok (.iaload, 1) := by decide +kernel
theorem d_M_order_6 : decode c_M_order 6 = .ok (.aload_n 0, 1) := by decide +kernel
theorem d_M_order_7 : decode c_M_order 7 = .ok (.getfield 13, 3) := by decide +kernel
theorem d_M_order_10 : decode c_M_order 10 = .ok (.iload_n 2, 1) := by decide +kernel
theorem d_M_order_11 : decode c_M_order 11 = .ok (.iaload, 1) := by decide +kernel
theorem d_M_order_12 : decode c_M_order 12 = .ok (.if_icmp .eq 24, 3) := by decide +kernel
theorem d_M_order_15 : decode c_M_order 15 = .ok (.aload_n 0, 1) := by decide +kernel
theorem d_M_order_16 : decode c_M_order 16 = .ok (.getfield 13, 3) := by decide +kernel
theorem d_M_order_19 : decode c_M_order 19 = .ok (.iload_n 1, 1) := by decide +kernel
theorem d_M_order_20 : decode c_M_order 20 = .ok (.iaload, 1) := by decide +kernel
theorem d_M_order_21 : decode c_M_order 21 = .ok (.aload_n 0, 1) := by decide +kernel
theorem d_M_order_22 : decode c_M_order 22 = .ok (.getfield 13, 3) := by decide +kernel
theorem d_M_order_25 : decode c_M_order 25 = .ok (.iload_n 2, 1) := by decide +kernel
theorem d_M_order_26 : decode c_M_order 26 = .ok (.iaload, 1) := by decide +kernel
theorem d_M_order_27 : decode c_M_order 27 = .ok (.if_icmp .ge 7, 3) := by decide +kernel
theorem d_M_order_30 : decode c_M_order 30 = .ok (.iconst (-1), 1) := by decide +kernel
theorem d_M_order_31 : decode c_M_order 31 = .ok (.goto 4, 3) := by decide +kernel
theorem d_M_order_34 : decode c_M_order 34 = .ok (.iconst 1, 1) := by decide +kernel
theorem d_M_order_35 : decode c_M_order 35 = .ok (.ireturn, 1) := by decide +kernel
theorem d_M_order_36 : decode c_M_order 36 = .ok (.aload_n 0, 1) := by decide +kernel
theorem d_M_order_37 : decode c_M_order 37 = .ok (.getfield 13, 3) := by decide +kernel
theorem d_M_order_40 : decode c_M_order 40 = .ok (.iload_n 1, 1) := by decide +kernel
theorem d_M_order_41 : decode c_M_order 41 = .ok (.iaload, 1) := by decide +kernel
theorem d_M_order_42 : decode c_M_order 42 = .ok (.iconst 1, 1) := by decide +kernel
theorem d_M_order_43 : decode c_M_order 43 = .ok (.isub, 1) := by decide +kernel
theorem d_M_order_44 : decode c_M_order 44 = .ok (.istore_n 3, 1) := by decide +kernel
theorem d_M_order_45 : decode c_M_order 45 = .ok (.iload_n 3, 1) := by decide +kernel
theorem d_M_order_46 : decode c_M_order 46 = .ok (.ifCond .lt 45, 3) := by decide +kernel
theorem d_M_order_49 : decode c_M_order 49 = .ok (.aload_n 0, 1) := by decide +kernel
theorem d_M_order_50 : decode c_M_order 50 = .ok (.iload_n 1, 1) := by decide +kernel
theorem d_M_order_51 : decode c_M_order 51 = .ok (.iload_n 3, 1) := by decide +kernel
theorem d_M_order_52 : decode c_M_order 52 = .ok (.invokevirtual 34, 3) := by decide +kernel
theorem d_M_order_55 : decode c_M_order 55 = .ok (.aload_n 0, 1) := by decide +kernel
theorem d_M_order_56 : decode c_M_order 56 = .ok (.iload_n 2, 1) := by decide +kernel
theorem d_M_order_57 : decode c_M_order 57 = .ok (.iload_n 3, 1) := by decide +kernel
theorem d_M_order_58 : decode c_M_order 58 = .ok (.invokevirtual 34, 3) := by decide +kernel
theorem d_M_order_61 : decode c_M_order 61 = .ok (.if_icmp .eq 24, 3) := by decide +kernel
theorem d_M_order_64 : decode c_M_order 64 = .ok (.aload_n 0, 1) := by decide +kernel
theorem d_M_order_65 : decode c_M_order 65 = .ok (.iload_n 1, 1) := by decide +kernel
theorem d_M_order_66 : decode c_M_order 66 = .ok (.iload_n 3, 1) := by decide +kernel
theorem d_M_order_67 : decode c_M_order 67 = .ok (.invokevirtual 34, 3) := by decide +kernel
theorem d_M_order_70 : decode c_M_order 70 = .ok (.aload_n 0, 1) := by decide +kernel
theorem d_M_order_71 : decode c_M_order 71 = .ok (.iload_n 2, 1) := by decide +kernel
theorem d_M_order_72 : decode c_M_order 72 = .ok (.iload_n 3, 1) := by decide +kernel
theorem d_M_order_73 : decode c_M_order 73 = .ok (.invokevirtual 34, 3) := by decide +kernel
theorem d_M_order_76 : decode c_M_order 76 = .ok (.if_icmp .ge 7, 3) := by decide +kernel
theorem d_M_order_79 : decode c_M_order 79 = .ok (.iconst (-1), 1) := by decide +kernel
theorem d_M_order_80 : decode c_M_order 80 = .ok (.goto 4, 3) := by decide +kernel
theorem d_M_order_83 : decode c_M_order 83 = .ok (.iconst 1, 1) := by decide +kernel
theorem d_M_order_84 : decode c_M_order 84 = .ok (.ireturn, 1) := by decide +kernel
theorem d_M_order_85 : decode c_M_order 85 = .ok (.iinc 3 (-1), 3) := by decide +kernel
theorem d_M_order_88 : decode c_M_order 88 = .ok (.goto (-43), 3) := by decide +kernel
theorem d_M_order_91 : decode c_M_order 91 = .ok (.iconst 0, 1) := by decide +kernel
theorem d_M_order_92 : decode c_M_order 92 = .ok (.ireturn, 1) := by decide +kernel
theorem d_M_lessTimes_0 : decode c_M_lessTimes 0 = .ok (.lconst 0, 1) := by decide +kernel
theorem d_M_lessTimes_1 : decode c_M_lessTimes 1 = .ok (.lstore 5, 2) := by decide +kernel
theorem d_M_lessTimes_3 : decode c_M_lessTimes 3 = .ok (.iconst 0, 1) := by decide +kernel
theorem d_M_lessTimes_4 : decode c_M_lessTimes 4 = .ok (.istore 7, 2) := by decide +kernel
theorem d_M_lessTimes_6 : decode c_M_lessTimes 6 = .ok (.iload 7, 2) := by decide +kernel
theorem d_M_lessTimes_8 : decode c_M_lessTimes 8 = .ok (.aload_n 0, 1) := by decide +kernel
theorem d_M_lessTimes_9 : decode c_M_lessTimes 9 = .ok (.getfield 13, 3) := by decide +kernel
theorem d_M_lessTimes_12 : decode c_M_lessTimes 12 = .ok (.iload_n 1, 1) := by decide +kernel
theorem d_M_lessTimes_13 : decode c_M_lessTimes 13 = .ok (.iaload, 1) := by decide +kernel
theorem d_M_lessTimes_14 : decode c_M_lessTimes 14 = .ok (.if_icmp .ge 60, 3) := by decide +kernel
theorem d_M_lessTimes_17 : decode c_M_lessTimes 17 = .ok (.lload 5, 2) := by decide +kernel
theorem d_M_lessTimes_19 : decode c_M_lessTimes 19 = .ok (.aload_n 0, 1) := by decide +kernel
theorem d_M_lessTimes_20 : decode c_M_lessTimes 20 = .ok (.iload_n 1, 1) := by decide +kernel
theorem d_M_lessTimes_21 : decode c_M_lessTimes 21 = .ok (.iload 7, 2) := by decide +kernel
theorem d_M_lessTimes_23 : decode c_M_lessTimes 23 = .ok (.invokevirtual 34, 3) := by decide +kernel
theorem d_M_lessTimes_26 : decode c_M_lessTimes 26 = .ok (.i2l, 1) := by decide +kernel
theorem d_M_lessTimes_27 : decode c_M_lessTimes 27 = .ok (.lload_n 3, 1) := by decide +kernel
theorem d_M_lessTimes_28 : decode c_M_lessTimes 28 = .ok (.aload_n 0, 1) := by decide +kernel
theorem d_M_lessTimes_29 : decode c_M_lessTimes 29 = .ok (.iload_n 2, 1) := by decide +kernel
theorem d_M_lessTimes_30 : decode c_M_lessTimes 30 = .ok (.iload 7, 2) := by decide +kernel
theorem d_M_lessTimes_32 : decode c_M_lessTimes 32 = .ok (.invokevirtual 34, 3) := by decide +kernel
theorem d_M_lessTimes_35 : decode c_M_lessTimes 35 = .ok (.i2l, 1) := by decide +kernel
theorem d_M_lessTimes_36 : decode c_M_lessTimes 36 = .ok (.lmul, 1) := by decide +kernel
theorem d_M_lessTimes_37 : decode c_M_lessTimes 37 = .ok (.lsub, 1) := by decide +kernel
theorem d_M_lessTimes_38 : decode c_M_lessTimes 38 = .ok (.ladd, 1) := by decide +kernel
theorem d_M_lessTimes_39 : decode c_M_lessTimes 39 = .ok (.lstore 5, 2) := by decide +kernel
theorem d_M_lessTimes_41 : decode c_M_lessTimes 41 = .ok (.aload_n 0, 1) := by decide +kernel
theorem d_M_lessTimes_42 : decode c_M_lessTimes 42 = .ok (.getfield 7, 3) := by decide +kernel
theorem d_M_lessTimes_45 : decode c_M_lessTimes 45 = .ok (.sipush 2800, 3) := by decide +kernel
theorem d_M_lessTimes_48 : decode c_M_lessTimes 48 = .ok (.iload_n 1, 1) := by decide +kernel
theorem d_M_lessTimes_49 : decode c_M_lessTimes 49 = .ok (.imul, 1) := by decide +kernel
theorem d_M_lessTimes_50 : decode c_M_lessTimes 50 = .ok (.iload 7, 2) := by decide +kernel
theorem d_M_lessTimes_52 : decode c_M_lessTimes 52 = .ok (.iadd, 1) := by decide +kernel
theorem d_M_lessTimes_53 : decode c_M_lessTimes 53 = .ok (.lload 5, 2) := by decide +kernel
theorem d_M_lessTimes_55 : decode c_M_lessTimes 55 = .ok (.ldc2_w 32, 3) := by decide +kernel
theorem d_M_lessTimes_58 : decode c_M_lessTimes 58 = .ok (.land, 1) := by decide +kernel
theorem d_M_lessTimes_59 : decode c_M_lessTimes 59 = .ok (.l2i, 1) := by decide +kernel
theorem d_M_lessTimes_60 : decode c_M_lessTimes 60 = .ok (.iastore, 1) := by decide +kernel
theorem d_M_lessTimes_61 : decode c_M_lessTimes 61 = .ok (.lload 5, 2) := by decide +kernel
theorem d_M_lessTimes_63 : decode c_M_lessTimes 63 = .ok (.bipush 15, 2) := by decide +kernel
theorem d_M_lessTimes_65 : decode c_M_lessTimes 65 = .ok (.lshr, 1) := by decide +kernel
theorem d_M_lessTimes_66 : decode c_M_lessTimes 66 = .ok (.lstore 5, 2) := by decide +kernel
theorem d_M_lessTimes_68 : decode c_M_lessTimes 68 = .ok (.iinc 7 1, 3) := by decide +kernel
theorem d_M_lessTimes_71 : decode c_M_lessTimes 71 = .ok (.goto (-65), 3) := by decide +kernel
theorem d_M_lessTimes_74 : decode c_M_lessTimes 74 = .ok (.aload_n 0, 1) := by decide +kernel
theorem d_M_lessTimes_75 : decode c_M_lessTimes 75 = .ok (.iload_n 1, 1) := by decide +kernel
theorem d_M_lessTimes_76 : decode c_M_lessTimes 76 = .ok (.invokevirtual 38, 3) := by decide +kernel
theorem d_M_lessTimes_79 : decode c_M_lessTimes 79 = .ok (.return_, 1) := by decide +kernel
theorem d_M_addTimes_0 : decode c_M_addTimes 0 = .ok (.lconst 0, 1) := by decide +kernel
theorem d_M_addTimes_1 : decode c_M_addTimes 1 = .ok (.lstore 5, 2) := by decide +kernel
theorem d_M_addTimes_3 : decode c_M_addTimes 3 = .ok (.iconst 0, 1) := by decide +kernel
theorem d_M_addTimes_4 : decode c_M_addTimes 4 = .ok (.istore 7, 2) := by decide +kernel
theorem d_M_addTimes_6 : decode c_M_addTimes 6 = .ok (.iload 7, 2) := by decide +kernel
theorem d_M_addTimes_8 : decode c_M_addTimes 8 = .ok (.aload_n 0, 1) := by decide +kernel
theorem d_M_addTimes_9 : decode c_M_addTimes 9 = .ok (.getfield 13, 3) := by decide +kernel
theorem d_M_addTimes_12 : decode c_M_addTimes 12 = .ok (.iload_n 2, 1) := by decide +kernel
theorem d_M_addTimes_13 : decode c_M_addTimes 13 = .ok (.iaload, 1) := by decide +kernel
theorem d_M_addTimes_14 : decode c_M_addTimes 14 = .ok (.if_icmp .lt 10, 3) := by decide +kernel
theorem d_M_addTimes_17 : decode c_M_addTimes 17 = .ok (.lload 5, 2) := by decide +kernel
theorem d_M_addTimes_19 : decode c_M_addTimes 19 = .ok (.lconst 0, 1) := by decide +kernel
theorem d_M_addTimes_20 : decode c_M_addTimes 20 = .ok (.lcmp, 1) := by decide +kernel
theorem d_M_addTimes_21 : decode c_M_addTimes 21 = .ok (.ifCond .le 92, 3) := by decide +kernel
theorem d_M_addTimes_24 : decode c_M_addTimes 24 = .ok (.lload 5, 2) := by decide +kernel
theorem d_M_addTimes_26 : decode c_M_addTimes 26 = .ok (.aload_n 0, 1) := by decide +kernel
theorem d_M_addTimes_27 : decode c_M_addTimes 27 = .ok (.iload_n 1, 1) := by decide +kernel
theorem d_M_addTimes_28 : decode c_M_addTimes 28 = .ok (.iload 7, 2) := by decide +kernel
theorem d_M_addTimes_30 : decode c_M_addTimes 30 = .ok (.invokevirtual 34, 3) := by decide +kernel
theorem d_M_addTimes_33 : decode c_M_addTimes 33 = .ok (.i2l, 1) := by decide +kernel
theorem d_M_addTimes_34 : decode c_M_addTimes 34 = .ok (.lload_n 3, 1) := by decide +kernel
theorem d_M_addTimes_35 : decode c_M_addTimes 35 = .ok (.aload_n 0, 1) := by decide +kernel
theorem d_M_addTimes_36 : decode c_M_addTimes 36 = .ok (.iload_n 2, 1) := by decide +kernel
theorem d_M_addTimes_37 : decode c_M_addTimes 37 = .ok (.iload 7, 2) := by decide +kernel
theorem d_M_addTimes_39 : decode c_M_addTimes 39 = .ok (.invokevirtual 34, 3) := by decide +kernel
theorem d_M_addTimes_42 : decode c_M_addTimes 42 = .ok (.i2l, 1) := by decide +kernel
theorem d_M_addTimes_43 : decode c_M_addTimes 43 = .ok (.lmul, 1) := by decide +kernel
theorem d_M_addTimes_44 : decode c_M_addTimes 44 = .ok (.ladd, 1) := by decide +kernel
theorem d_M_addTimes_45 : decode c_M_addTimes 45 = .ok (.ladd, 1) := by decide +kernel
theorem d_M_addTimes_46 : decode c_M_addTimes 46 = .ok (.lstore 5, 2) := by decide +kernel
theorem d_M_addTimes_48 : decode c_M_addTimes 48 = .ok (.aload_n 0, 1) := by decide +kernel
theorem d_M_addTimes_49 : decode c_M_addTimes 49 = .ok (.getfield 7, 3) := by decide +kernel
theorem d_M_addTimes_52 : decode c_M_addTimes 52 = .ok (.sipush 2800, 3) := by decide +kernel
theorem d_M_addTimes_55 : decode c_M_addTimes 55 = .ok (.iload_n 1, 1) := by decide +kernel
theorem d_M_addTimes_56 : decode c_M_addTimes 56 = .ok (.imul, 1) := by decide +kernel
theorem d_M_addTimes_57 : decode c_M_addTimes 57 = .ok (.iload 7, 2) := by decide +kernel
theorem d_M_addTimes_59 : decode c_M_addTimes 59 = .ok (.iadd, 1) := by decide +kernel
theorem d_M_addTimes_60 : decode c_M_addTimes 60 = .ok (.lload 5, 2) := by decide +kernel
theorem d_M_addTimes_62 : decode c_M_addTimes 62 = .ok (.ldc2_w 32, 3) := by decide +kernel
theorem d_M_addTimes_65 : decode c_M_addTimes 65 = .ok (.land, 1) := by decide +kernel
theorem d_M_addTimes_66 : decode c_M_addTimes 66 = .ok (.l2i, 1) := by decide +kernel
theorem d_M_addTimes_67 : decode c_M_addTimes 67 = .ok (.iastore, 1) := by decide +kernel
theorem d_M_addTimes_68 : decode c_M_addTimes 68 = .ok (.aload_n 0, 1) := by decide +kernel
theorem d_M_addTimes_69 : decode c_M_addTimes 69 = .ok (.getfield 13, 3) := by decide +kernel
theorem d_M_addTimes_72 : decode c_M_addTimes 72 = .ok (.iload_n 1, 1) := by decide +kernel
theorem d_M_addTimes_73 : decode c_M_addTimes 73 = .ok (.iload 7, 2) := by decide +kernel
theorem d_M_addTimes_75 : decode c_M_addTimes 75 = .ok (.iconst 1, 1) := by decide +kernel
theorem d_M_addTimes_76 : decode c_M_addTimes 76 = .ok (.iadd, 1) := by decide +kernel
theorem d_M_addTimes_77 : decode c_M_addTimes 77 = .ok (.aload_n 0, 1) := by decide +kernel
theorem d_M_addTimes_78 : decode c_M_addTimes 78 = .ok (.getfield 13, 3) := by decide +kernel
theorem d_M_addTimes_81 : decode c_M_addTimes 81 = .ok (.iload_n 1, 1) := by decide +kernel
theorem d_M_addTimes_82 : decode c_M_addTimes 82 = .ok (.iaload, 1) := by decide +kernel
theorem d_M_addTimes_83 : decode c_M_addTimes 83 = .ok (.if_icmp .le 10, 3) := by decide +kernel
theorem d_M_addTimes_86 : decode c_M_addTimes 86 = .ok (.iload 7, 2) := by decide +kernel
theorem d_M_addTimes_88 : decode c_M_addTimes 88 = .ok (.iconst 1, 1) := by decide +kernel
theorem d_M_addTimes_89 : decode c_M_addTimes 89 = .ok (.iadd, 1) := by decide +kernel
theorem d_M_addTimes_90 : decode c_M_addTimes 90 = .ok (.goto 9, 3) := by decide +kernel
theorem d_M_addTimes_93 : decode c_M_addTimes 93 = .ok (.aload_n 0, 1) := by decide +kernel
theorem d_M_addTimes_94 : decode c_M_addTimes 94 = .ok (.getfield 13, 3) := by decide +kernel
theorem d_M_addTimes_97 : decode c_M_addTimes 97 = .ok (.iload_n 1, 1) := by decide +kernel
theorem d_M_addTimes_98 : decode c_M_addTimes 98 = .ok (.iaload, 1) := by decide +kernel
theorem d_M_addTimes_99 : decode c_M_addTimes 99 = .ok (.iastore, 1) := by decide +kernel
theorem d_M_addTimes_100 : decode c_M_addTimes 100 = .ok (.lload 5, 2) := by decide +kernel
theorem d_M_addTimes_102 : decode c_M_addTimes 102 = .ok (.bipush 15, 2) := by decide +kernel
theorem d_M_addTimes_104 : decode c_M_addTimes 104 = .ok (.lshr, 1) := by decide +kernel
theorem d_M_addTimes_105 : decode c_M_addTimes 105 = .ok (.lstore 5, 2) := by decide +kernel
theorem d_M_addTimes_107 : decode c_M_addTimes 107 = .ok (.iinc 7 1, 3) := by decide +kernel
theorem d_M_addTimes_110 : decode c_M_addTimes 110 = .ok (.goto (-104), 3) := by decide +kernel
theorem d_M_addTimes_113 : decode c_M_addTimes 113 = .ok (.aload_n 0, 1) := by decide +kernel
theorem d_M_addTimes_114 : decode c_M_addTimes 114 = .ok (.iload_n 1, 1) := by decide +kernel
theorem d_M_addTimes_115 : decode c_M_addTimes 115 = .ok (.invokevirtual 38, 3) := by decide +kernel
theorem d_M_addTimes_118 : decode c_M_addTimes 118 = .ok (.return_, 1) := by decide +kernel
theorem d_M_lower_0 : decode c_M_lower 0 = .ok (.lconst 0, 1) := by decide +kernel
theorem d_M_lower_1 : decode c_M_lower 1 = .ok (.lstore 4, 2) := by decide +kernel
theorem d_M_lower_3 : decode c_M_lower 3 = .ok (.aload_n 0, 1) := by decide +kernel
theorem d_M_lower_4 : decode c_M_lower 4 = .ok (.getfield 13, 3) := by decide +kernel
theorem d_M_lower_7 : decode c_M_lower 7 = .ok (.iload_n 1, 1) := by decide +kernel
theorem d_M_lower_8 : decode c_M_lower 8 = .ok (.iaload, 1) := by decide +kernel
theorem d_M_lower_9 : decode c_M_lower 9 = .ok (.iconst 1, 1) := by decide +kernel
theorem d_M_lower_10 : decode c_M_lower 10 = .ok (.isub, 1) := by decide +kernel
theorem d_M_lower_11 : decode c_M_lower 11 = .ok (.istore 6, 2) := by decide +kernel
theorem d_M_lower_13 : decode c_M_lower 13 = .ok (.iload 6, 2) := by decide +kernel
theorem d_M_lower_15 : decode c_M_lower 15 = .ok (.ifCond .lt 49, 3) := by decide +kernel
theorem d_M_lower_18 : decode c_M_lower 18 = .ok (.lload 4, 2) := by decide +kernel
theorem d_M_lower_20 : decode c_M_lower 20 = .ok (.bipush 15, 2) := by decide +kernel
theorem d_M_lower_22 : decode c_M_lower 22 = .ok (.lshl, 1) := by decide +kernel
theorem d_M_lower_23 : decode c_M_lower 23 = .ok (.aload_n 0, 1) := by decide +kernel
theorem d_M_lower_24 : decode c_M_lower 24 = .ok (.iload_n 1, 1) := by decide +kernel
theorem d_M_lower_25 : decode c_M_lower 25 = .ok (.iload 6, 2) := by decide +kernel
theorem d_M_lower_27 : decode c_M_lower 27 = .ok (.invokevirtual 34, 3) := by decide +kernel
theorem d_M_lower_30 : decode c_M_lower 30 = .ok (.i2l, 1) := by decide +kernel
theorem d_M_lower_31 : decode c_M_lower 31 = .ok (.ladd, 1) := by decide +kernel
theorem d_M_lower_32 : decode c_M_lower 32 = .ok (.lstore 4, 2) := by decide +kernel
theorem d_M_lower_34 : decode c_M_lower 34 = .ok (.aload_n 0, 1) := by decide +kernel
theorem d_M_lower_35 : decode c_M_lower 35 = .ok (.getfield 7, 3) := by decide +kernel
theorem d_M_lower_38 : decode c_M_lower 38 = .ok (.sipush 2800, 3) := by decide +kernel
theorem d_M_lower_41 : decode c_M_lower 41 = .ok (.iload_n 1, 1) := by decide +kernel
theorem d_M_lower_42 : decode c_M_lower 42 = .ok (.imul, 1) := by decide +kernel
theorem d_M_lower_43 : decode c_M_lower 43 = .ok (.iload 6, 2) := by decide +kernel
theorem d_M_lower_45 : decode c_M_lower 45 = .ok (.iadd, 1) := by decide +kernel
theorem d_M_lower_46 : decode c_M_lower 46 = .ok (.lload 4, 2) := by decide +kernel
theorem d_M_lower_48 : decode c_M_lower 48 = .ok (.lload_n 2, 1) := by decide +kernel
theorem d_M_lower_49 : decode c_M_lower 49 = .ok (.ldiv, 1) := by decide +kernel
theorem d_M_lower_50 : decode c_M_lower 50 = .ok (.l2i, 1) := by decide +kernel
theorem d_M_lower_51 : decode c_M_lower 51 = .ok (.iastore, 1) := by decide +kernel
theorem d_M_lower_52 : decode c_M_lower 52 = .ok (.lload 4, 2) := by decide +kernel
theorem d_M_lower_54 : decode c_M_lower 54 = .ok (.lload_n 2, 1) := by decide +kernel
theorem d_M_lower_55 : decode c_M_lower 55 = .ok (.lrem, 1) := by decide +kernel
theorem d_M_lower_56 : decode c_M_lower 56 = .ok (.lstore 4, 2) := by decide +kernel
theorem d_M_lower_58 : decode c_M_lower 58 = .ok (.iinc 6 (-1), 3) := by decide +kernel
theorem d_M_lower_61 : decode c_M_lower 61 = .ok (.goto (-48), 3) := by decide +kernel
theorem d_M_lower_64 : decode c_M_lower 64 = .ok (.aload_n 0, 1) := by decide +kernel
theorem d_M_lower_65 : decode c_M_lower 65 = .ok (.lload 4, 2) := by decide +kernel
theorem d_M_lower_67 : decode c_M_lower 67 = .ok (.putfield 42, 3) := by decide +kernel
theorem d_M_lower_70 : decode c_M_lower 70 = .ok (.aload_n 0, 1) := by decide +kernel
theorem d_M_lower_71 : decode c_M_lower 71 = .ok (.iload_n 1, 1) := by decide +kernel
theorem d_M_lower_72 : decode c_M_lower 72 = .ok (.invokevirtual 38, 3) := by decide +kernel
theorem d_M_lower_75 : decode c_M_lower 75 = .ok (.return_, 1) := by decide +kernel
theorem d_M_constant_0 : decode c_M_constant 0 = .ok (.iconst 1, 1) := by decide +kernel
theorem d_M_constant_1 : decode c_M_constant 1 = .ok (.istore 4, 2) := by decide +kernel
theorem d_M_constant_3 : decode c_M_constant 3 = .ok (.iconst 4, 1) := by decide +kernel
theorem d_M_constant_4 : decode c_M_constant 4 = .ok (.istore 5, 2) := by decide +kernel
theorem d_M_constant_6 : decode c_M_constant 6 = .ok (.iload 4, 2) := by decide +kernel
theorem d_M_constant_8 : decode c_M_constant 8 = .ok (.ifCond .eq 147, 3) := by decide +kernel
theorem d_M_constant_11 : decode c_M_constant 11 = .ok (.aload_n 0, 1) := by decide +kernel
theorem d_M_constant_12 : decode c_M_constant 12 = .ok (.iconst 2, 1) := by decide +kernel
theorem d_M_constant_13 : decode c_M_constant 13 = .ok (.iload_n 3, 1) := by decide +kernel
theorem d_M_constant_14 : decode c_M_constant 14 = .ok (.iload_n 2, 1) := by decide +kernel
theorem d_M_constant_15 : decode c_M_constant 15 = .ok (.invokevirtual 102, 3) := by decide +kernel
theorem d_M_constant_18 : decode c_M_constant 18 = .ok (.aload_n 0, 1) := by decide +kernel
theorem d_M_constant_19 : decode c_M_constant 19 = .ok (.iconst 2, 1) := by decide +kernel
theorem d_M_constant_20 : decode c_M_constant 20 = .ok (.iload 5, 2) := by decide +kernel
theorem d_M_constant_22 : decode c_M_constant 22 = .ok (.invokevirtual 46, 3) := by decide +kernel
theorem d_M_constant_25 : decode c_M_constant 25 = .ok (.aload_n 0, 1) := by decide +kernel
theorem d_M_constant_26 : decode c_M_constant 26 = .ok (.getfield 13, 3) := by decide +kernel
theorem d_M_constant_29 : decode c_M_constant 29 = .ok (.iconst 5, 1) := by decide +kernel
theorem d_M_constant_30 : decode c_M_constant 30 = .ok (.iconst 0, 1) := by decide +kernel
theorem d_M_constant_31 : decode c_M_constant 31 = .ok (.iastore, 1) := by decide +kernel
theorem d_M_constant_32 : decode c_M_constant 32 = .ok (.iload_n 1, 1) := by decide +kernel
theorem d_M_constant_33 : decode c_M_constant 33 = .ok (.ifCond .ne 10, 3) := by decide +kernel
theorem d_M_constant_36 : decode c_M_constant 36 = .ok (.aload_n 0, 1) := by decide +kernel
theorem d_M_constant_37 : decode c_M_constant 37 = .ok (.invokevirtual 106, 3) := by decide +kernel
theorem d_M_constant_40 : decode c_M_constant 40 = .ok (.goto 31, 3) := by decide +kernel
theorem d_M_constant_43 : decode c_M_constant 43 = .ok (.iload_n 1, 1) := by decide +kernel
theorem d_M_constant_44 : decode c_M_constant 44 = .ok (.iconst 1, 1) := by decide +kernel
theorem d_M_constant_45 : decode c_M_constant 45 = .ok (.if_icmp .ne 10, 3) := by decide +kernel
theorem d_M_constant_48 : decode c_M_constant 48 = .ok (.aload_n 0, 1) := by decide +kernel
theorem d_M_constant_49 : decode c_M_constant 49 = .ok (.invokevirtual 110, 3) := by decide +kernel
theorem d_M_constant_52 : decode c_M_constant 52 = .ok (.goto 19, 3) := by decide +kernel
theorem d_M_constant_55 : decode c_M_constant 55 = .ok (.iload_n 1, 1) := by decide +kernel
theorem d_M_constant_56 : decode c_M_constant 56 = .ok (.iconst 3, 1) := by decide +kernel
theorem d_M_constant_57 : decode c_M_constant 57 = .ok (.if_icmp .ne 10, 3) := by decide +kernel
theorem d_M_constant_60 : decode c_M_constant 60 = .ok (.aload_n 0, 1) := by decide +kernel
theorem d_M_constant_61 : decode c_M_constant 61 = .ok (.invokevirtual 113, 3) := by decide +kernel
theorem d_M_constant_64 : decode c_M_constant 64 = .ok (.goto 7, 3) := by decide +kernel
theorem d_M_constant_67 : decode c_M_constant 67 = .ok (.aload_n 0, 1) := by decide +kernel
theorem d_M_constant_68 : decode c_M_constant 68 = .ok (.invokevirtual 116, 3) := by decide +kernel
theorem d_M_constant_71 : decode c_M_constant 71 = .ok (.istore 6, 2) := by decide +kernel
theorem d_M_constant_73 : decode c_M_constant 73 = .ok (.ldc2_w 119, 3) := by decide +kernel
theorem d_M_constant_76 : decode c_M_constant 76 = .ok (.iload 6, 2) := by decide +kernel
theorem d_M_constant_78 : decode c_M_constant 78 = .ok (.i2l, 1) := by decide +kernel
theorem d_M_constant_79 : decode c_M_constant 79 = .ok (.ldc2_w 77, 3) := by decide +kernel
theorem d_M_constant_82 : decode c_M_constant 82 = .ok (.ladd, 1) := by decide +kernel
theorem d_M_constant_83 : decode c_M_constant 83 = .ok (.lmul, 1) := by decide +kernel
theorem d_M_constant_84 : decode c_M_constant 84 = .ok (.lstore 7, 2) := by decide +kernel
theorem d_M_constant_86 : decode c_M_constant 86 = .ok (.aload_n 0, 1) := by decide +kernel
theorem d_M_constant_87 : decode c_M_constant 87 = .ok (.bipush 6, 2) := by decide +kernel
theorem d_M_constant_89 : decode c_M_constant 89 = .ok (.iconst 5, 1) := by decide +kernel
theorem d_M_constant_90 : decode c_M_constant 90 = .ok (.invokevirtual 70, 3) := by decide +kernel
theorem d_M_constant_93 : decode c_M_constant 93 = .ok (.aload_n 0, 1) := by decide +kernel
theorem d_M_constant_94 : decode c_M_constant 94 = .ok (.iconst 4, 1) := by decide +kernel
theorem d_M_constant_95 : decode c_M_constant 95 = .ok (.lload 7, 2) := by decide +kernel
theorem d_M_constant_97 : decode c_M_constant 97 = .ok (.invokevirtual 83, 3) := by decide +kernel
theorem d_M_constant_100 : decode c_M_constant 100 = .ok (.aload_n 0, 1) := by decide +kernel
theorem d_M_constant_101 : decode c_M_constant 101 = .ok (.bipush 6, 2) := by decide +kernel
theorem d_M_constant_103 : decode c_M_constant 103 = .ok (.iconst 4, 1) := by decide +kernel
theorem d_M_constant_104 : decode c_M_constant 104 = .ok (.lconst 1, 1) := by decide +kernel
theorem d_M_constant_105 : decode c_M_constant 105 = .ok (.invokevirtual 64, 3) := by decide +kernel
theorem d_M_constant_108 : decode c_M_constant 108 = .ok (.aload_n 0, 1) := by decide +kernel
theorem d_M_constant_109 : decode c_M_constant 109 = .ok (.iconst 5, 1) := by decide +kernel
theorem d_M_constant_110 : decode c_M_constant 110 = .ok (.iconst 4, 1) := by decide +kernel
theorem d_M_constant_111 : decode c_M_constant 111 = .ok (.lconst 1, 1) := by decide +kernel
theorem d_M_constant_112 : decode c_M_constant 112 = .ok (.invokevirtual 50, 3) := by decide +kernel
theorem d_M_constant_115 : decode c_M_constant 115 = .ok (.aload_n 0, 1) := by decide +kernel
theorem d_M_constant_116 : decode c_M_constant 116 = .ok (.bipush 6, 2) := by decide +kernel
theorem d_M_constant_118 : decode c_M_constant 118 = .ok (.iload 5, 2) := by decide +kernel
theorem d_M_constant_120 : decode c_M_constant 120 = .ok (.ineg, 1) := by decide +kernel
theorem d_M_constant_121 : decode c_M_constant 121 = .ok (.invokevirtual 46, 3) := by decide +kernel
theorem d_M_constant_124 : decode c_M_constant 124 = .ok (.aload_n 0, 1) := by decide +kernel
theorem d_M_constant_125 : decode c_M_constant 125 = .ok (.iconst 5, 1) := by decide +kernel
theorem d_M_constant_126 : decode c_M_constant 126 = .ok (.iload 5, 2) := by decide +kernel
theorem d_M_constant_128 : decode c_M_constant 128 = .ok (.ineg, 1) := by decide +kernel
theorem d_M_constant_129 : decode c_M_constant 129 = .ok (.invokevirtual 46, 3) := by decide +kernel
theorem d_M_constant_132 : decode c_M_constant 132 = .ok (.aload_n 0, 1) := by decide +kernel
theorem d_M_constant_133 : decode c_M_constant 133 = .ok (.bipush 6, 2) := by decide +kernel
theorem d_M_constant_135 : decode c_M_constant 135 = .ok (.iconst 5, 1) := by decide +kernel
theorem d_M_constant_136 : decode c_M_constant 136 = .ok (.invokevirtual 67, 3) := by decide +kernel
theorem d_M_constant_139 : decode c_M_constant 139 = .ok (.ifCond .eq 7, 3) := by decide +kernel
theorem d_M_constant_142 : decode c_M_constant 142 = .ok (.iconst 1, 1) := by decide +kernel
theorem d_M_constant_143 : decode c_M_constant 143 = .ok (.goto 4, 3) := by decide +kernel
theorem d_M_constant_146 : decode c_M_constant 146 = .ok (.iconst 0, 1) := by decide +kernel
theorem d_M_constant_147 : decode c_M_constant 147 = .ok (.istore 4, 2) := by decide +kernel
theorem d_M_constant_149 : decode c_M_constant 149 = .ok (.iinc 5 4, 3) := by decide +kernel
theorem d_M_constant_152 : decode c_M_constant 152 = .ok (.goto (-146), 3) := by decide +kernel
theorem d_M_constant_155 : decode c_M_constant 155 = .ok (.aload_n 0, 1) := by decide +kernel
theorem d_M_constant_156 : decode c_M_constant 156 = .ok (.iconst 0, 1) := by decide +kernel
theorem d_M_constant_157 : decode c_M_constant 157 = .ok (.bipush 6, 2) := by decide +kernel
theorem d_M_constant_159 : decode c_M_constant 159 = .ok (.invokevirtual 70, 3) := by decide +kernel
theorem d_M_constant_162 : decode c_M_constant 162 = .ok (.return_, 1) := by decide +kernel
theorem d_M_arcs_0 : decode c_M_arcs 0 = .ok (.aload_n 0, 1) := by decide +kernel
theorem d_M_arcs_1 : decode c_M_arcs 1 = .ok (.ldc2_w 90, 3) := by decide +kernel
theorem d_M_arcs_4 : decode c_M_arcs 4 = .ok (.ldc2_w 92, 3) := by decide +kernel
theorem d_M_arcs_7 : decode c_M_arcs 7 = .ok (.iconst 0, 1) := by decide +kernel
theorem d_M_arcs_8 : decode c_M_arcs 8 = .ok (.invokevirtual 94, 3) := by decide +kernel
theorem d_M_arcs_11 : decode c_M_arcs 11 = .ok (.istore_n 1, 1) := by decide +kernel
theorem d_M_arcs_12 : decode c_M_arcs 12 = .ok (.iload_n 1, 1) := by decide +kernel
theorem d_M_arcs_13 : decode c_M_arcs 13 = .ok (.aload_n 0, 1) := by decide +kernel
theorem d_M_arcs_14 : decode c_M_arcs 14 = .ok (.ldc2_w 98, 3) := by decide +kernel
theorem d_M_arcs_17 : decode c_M_arcs 17 = .ok (.ldc2_w 100, 3) := by decide +kernel
theorem d_M_arcs_20 : decode c_M_arcs 20 = .ok (.iconst 1, 1) := by decide +kernel
theorem d_M_arcs_21 : decode c_M_arcs 21 = .ok (.invokevirtual 94, 3) := by decide +kernel
theorem d_M_arcs_24 : decode c_M_arcs 24 = .ok (.iadd, 1) := by decide +kernel
theorem d_M_arcs_25 : decode c_M_arcs 25 = .ok (.ireturn, 1) := by decide +kernel
theorem d_M_arc_0 : decode c_M_arc 0 = .ok (.aload_n 0, 1) := by decide +kernel
theorem d_M_arc_1 : decode c_M_arc 1 = .ok (.iconst 3, 1) := by decide +kernel
theorem d_M_arc_2 : decode c_M_arc 2 = .ok (.iconst 2, 1) := by decide +kernel
theorem d_M_arc_3 : decode c_M_arc 3 = .ok (.invokevirtual 70, 3) := by decide +kernel
theorem d_M_arc_6 : decode c_M_arc 6 = .ok (.aload_n 0, 1) := by decide +kernel
theorem d_M_arc_7 : decode c_M_arc 7 = .ok (.iconst 3, 1) := by decide +kernel
theorem d_M_arc_8 : decode c_M_arc 8 = .ok (.lload_n 1, 1) := by decide +kernel
theorem d_M_arc_9 : decode c_M_arc 9 = .ok (.invokevirtual 87, 3) := by decide +kernel
theorem d_M_arc_12 : decode c_M_arc 12 = .ok (.iconst 0, 1) := by decide +kernel
theorem d_M_arc_13 : decode c_M_arc 13 = .ok (.istore 6, 2) := by decide +kernel
theorem d_M_arc_15 : decode c_M_arc 15 = .ok (.aload_n 0, 1) := by decide +kernel
theorem d_M_arc_16 : decode c_M_arc 16 = .ok (.getfield 13, 3) := by decide +kernel
theorem d_M_arc_19 : decode c_M_arc 19 = .ok (.iconst 3, 1) := by decide +kernel
theorem d_M_arc_20 : decode c_M_arc 20 = .ok (.iaload, 1) := by decide +kernel
theorem d_M_arc_21 : decode c_M_arc 21 = .ok (.ifCond .le 72, 3) := by decide +kernel
theorem d_M_arc_24 : decode c_M_arc 24 = .ok (.aload_n 0, 1) := by decide +kernel
theorem d_M_arc_25 : decode c_M_arc 25 = .ok (.iconst 4, 1) := by decide +kernel
theorem d_M_arc_26 : decode c_M_arc 26 = .ok (.iconst 3, 1) := by decide +kernel
theorem d_M_arc_27 : decode c_M_arc 27 = .ok (.invokevirtual 70, 3) := by decide +kernel
theorem d_M_arc_30 : decode c_M_arc 30 = .ok (.aload_n 0, 1) := by decide +kernel
theorem d_M_arc_31 : decode c_M_arc 31 = .ok (.iconst 4, 1) := by decide +kernel
theorem d_M_arc_32 : decode c_M_arc 32 = .ok (.ldc2_w 73, 3) := by decide +kernel
theorem d_M_arc_35 : decode c_M_arc 35 = .ok (.iload 6, 2) := by decide +kernel
theorem d_M_arc_37 : decode c_M_arc 37 = .ok (.i2l, 1) := by decide +kernel
theorem d_M_arc_38 : decode c_M_arc 38 = .ok (.lmul, 1) := by decide +kernel
theorem d_M_arc_39 : decode c_M_arc 39 = .ok (.lconst 1, 1) := by decide +kernel
theorem d_M_arc_40 : decode c_M_arc 40 = .ok (.ladd, 1) := by decide +kernel
theorem d_M_arc_41 : decode c_M_arc 41 = .ok (.invokevirtual 87, 3) := by decide +kernel
theorem d_M_arc_44 : decode c_M_arc 44 = .ok (.iload 5, 2) := by decide +kernel
theorem d_M_arc_46 : decode c_M_arc 46 = .ok (.iload 6, 2) := by decide +kernel
theorem d_M_arc_48 : decode c_M_arc 48 = .ok (.iconst 2, 1) := by decide +kernel
theorem d_M_arc_49 : decode c_M_arc 49 = .ok (.irem, 1) := by decide +kernel
theorem d_M_arc_50 : decode c_M_arc 50 = .ok (.iconst 1, 1) := by decide +kernel
theorem d_M_arc_51 : decode c_M_arc 51 = .ok (.if_icmp .ne 7, 3) := by decide +kernel
theorem d_M_arc_54 : decode c_M_arc 54 = .ok (.iconst 1, 1) := by decide +kernel
theorem d_M_arc_55 : decode c_M_arc 55 = .ok (.goto 4, 3) := by decide +kernel
theorem d_M_arc_58 : decode c_M_arc 58 = .ok (.iconst 0, 1) := by decide +kernel
theorem d_M_arc_59 : decode c_M_arc 59 = .ok (.if_icmp .ne 13, 3) := by decide +kernel
theorem d_M_arc_62 : decode c_M_arc 62 = .ok (.aload_n 0, 1) := by decide +kernel
theorem d_M_arc_63 : decode c_M_arc 63 = .ok (.iconst 5, 1) := by decide +kernel
theorem d_M_arc_64 : decode c_M_arc 64 = .ok (.iconst 4, 1) := by decide +kernel
theorem d_M_arc_65 : decode c_M_arc 65 = .ok (.lload_n 3, 1) := by decide +kernel
theorem d_M_arc_66 : decode c_M_arc 66 = .ok (.invokevirtual 50, 3) := by decide +kernel
theorem d_M_arc_69 : decode c_M_arc 69 = .ok (.goto 10, 3) := by decide +kernel
theorem d_M_arc_72 : decode c_M_arc 72 = .ok (.aload_n 0, 1) := by decide +kernel
theorem d_M_arc_73 : decode c_M_arc 73 = .ok (.iconst 5, 1) := by decide +kernel
theorem d_M_arc_74 : decode c_M_arc 74 = .ok (.iconst 4, 1) := by decide +kernel
theorem d_M_arc_75 : decode c_M_arc 75 = .ok (.lload_n 3, 1) := by decide +kernel
theorem d_M_arc_76 : decode c_M_arc 76 = .ok (.invokevirtual 64, 3) := by decide +kernel
theorem d_M_arc_79 : decode c_M_arc 79 = .ok (.aload_n 0, 1) := by decide +kernel
theorem d_M_arc_80 : decode c_M_arc 80 = .ok (.iconst 3, 1) := by decide +kernel
theorem d_M_arc_81 : decode c_M_arc 81 = .ok (.lload_n 1, 1) := by decide +kernel
theorem d_M_arc_82 : decode c_M_arc 82 = .ok (.lload_n 1, 1) := by decide +kernel
theorem d_M_arc_83 : decode c_M_arc 83 = .ok (.lmul, 1) := by decide +kernel
theorem d_M_arc_84 : decode c_M_arc 84 = .ok (.invokevirtual 87, 3) := by decide +kernel
theorem d_M_arc_87 : decode c_M_arc 87 = .ok (.iinc 6 1, 3) := by decide +kernel
theorem d_M_arc_90 : decode c_M_arc 90 = .ok (.goto (-75), 3) := by decide +kernel
theorem d_M_arc_93 : decode c_M_arc 93 = .ok (.iload 6, 2) := by decide +kernel
theorem d_M_arc_95 : decode c_M_arc 95 = .ok (.ireturn, 1) := by decide +kernel
theorem d_M_factorials_0 : decode c_M_factorials 0 = .ok (.aload_n 0, 1) := by decide +kernel
theorem d_M_factorials_1 : decode c_M_factorials 1 = .ok (.iconst 3, 1) := by decide +kernel
theorem d_M_factorials_2 : decode c_M_factorials 2 = .ok (.iconst 2, 1) := by decide +kernel
theorem d_M_factorials_3 : decode c_M_factorials 3 = .ok (.invokevirtual 70, 3) := by decide +kernel
theorem d_M_factorials_6 : decode c_M_factorials 6 = .ok (.iconst 0, 1) := by decide +kernel
theorem d_M_factorials_7 : decode c_M_factorials 7 = .ok (.istore_n 1, 1) := by decide +kernel
theorem d_M_factorials_8 : decode c_M_factorials 8 = .ok (.aload_n 0, 1) := by decide +kernel
theorem d_M_factorials_9 : decode c_M_factorials 9 = .ok (.getfield 13, 3) := by decide +kernel
theorem d_M_factorials_12 : decode c_M_factorials 12 = .ok (.iconst 3, 1) := by decide +kernel
theorem d_M_factorials_13 : decode c_M_factorials 13 = .ok (.iaload, 1) := by decide +kernel
theorem d_M_factorials_14 : decode c_M_factorials 14 = .ok (.ifCond .le 23, 3) := by decide +kernel
theorem d_M_factorials_17 : decode c_M_factorials 17 = .ok (.aload_n 0, 1) := by decide +kernel
theorem d_M_factorials_18 : decode c_M_factorials 18 = .ok (.iconst 5, 1) := by decide +kernel
theorem d_M_factorials_19 : decode c_M_factorials 19 = .ok (.iconst 3, 1) := by decide +kernel
theorem d_M_factorials_20 : decode c_M_factorials 20 = .ok (.lconst 1, 1) := by decide +kernel
theorem d_M_factorials_21 : decode c_M_factorials 21 = .ok (.invokevirtual 50, 3) := by decide +kernel
theorem d_M_factorials_24 : decode c_M_factorials 24 = .ok (.iinc 1 1, 3) := by decide +kernel
theorem d_M_factorials_27 : decode c_M_factorials 27 = .ok (.aload_n 0, 1) := by decide +kernel
theorem d_M_factorials_28 : decode c_M_factorials 28 = .ok (.iconst 3, 1) := by decide +kernel
theorem d_M_factorials_29 : decode c_M_factorials 29 = .ok (.iload_n 1, 1) := by decide +kernel
theorem d_M_factorials_30 : decode c_M_factorials 30 = .ok (.i2l, 1) := by decide +kernel
theorem d_M_factorials_31 : decode c_M_factorials 31 = .ok (.invokevirtual 87, 3) := by decide +kernel
theorem d_M_factorials_34 : decode c_M_factorials 34 = .ok (.goto (-26), 3) := by decide +kernel
theorem d_M_factorials_37 : decode c_M_factorials 37 = .ok (.iload_n 1, 1) := by decide +kernel
theorem d_M_factorials_38 : decode c_M_factorials 38 = .ok (.ireturn, 1) := by decide +kernel
theorem d_M_halves_0 : decode c_M_halves 0 = .ok (.aload_n 0, 1) := by decide +kernel
theorem d_M_halves_1 : decode c_M_halves 1 = .ok (.iconst 3, 1) := by decide +kernel
theorem d_M_halves_2 : decode c_M_halves 2 = .ok (.iconst 2, 1) := by decide +kernel
theorem d_M_halves_3 : decode c_M_halves 3 = .ok (.invokevirtual 70, 3) := by decide +kernel
theorem d_M_halves_6 : decode c_M_halves 6 = .ok (.iconst 0, 1) := by decide +kernel
theorem d_M_halves_7 : decode c_M_halves 7 = .ok (.istore_n 1, 1) := by decide +kernel
theorem d_M_halves_8 : decode c_M_halves 8 = .ok (.aload_n 0, 1) := by decide +kernel
theorem d_M_halves_9 : decode c_M_halves 9 = .ok (.getfield 13, 3) := by decide +kernel
theorem d_M_halves_12 : decode c_M_halves 12 = .ok (.iconst 3, 1) := by decide +kernel
theorem d_M_halves_13 : decode c_M_halves 13 = .ok (.iaload, 1) := by decide +kernel
theorem d_M_halves_14 : decode c_M_halves 14 = .ok (.ifCond .le 37, 3) := by decide +kernel
theorem d_M_halves_17 : decode c_M_halves 17 = .ok (.iinc 1 1, 3) := by decide +kernel
theorem d_M_halves_20 : decode c_M_halves 20 = .ok (.aload_n 0, 1) := by decide +kernel
theorem d_M_halves_21 : decode c_M_halves 21 = .ok (.iconst 3, 1) := by decide +kernel
theorem d_M_halves_22 : decode c_M_halves 22 = .ok (.ldc2_w 73, 3) := by decide +kernel
theorem d_M_halves_25 : decode c_M_halves 25 = .ok (.invokevirtual 87, 3) := by decide +kernel
theorem d_M_halves_28 : decode c_M_halves 28 = .ok (.aload_n 0, 1) := by decide +kernel
theorem d_M_halves_29 : decode c_M_halves 29 = .ok (.iconst 4, 1) := by decide +kernel
theorem d_M_halves_30 : decode c_M_halves 30 = .ok (.iconst 3, 1) := by decide +kernel
theorem d_M_halves_31 : decode c_M_halves 31 = .ok (.invokevirtual 70, 3) := by decide +kernel
theorem d_M_halves_34 : decode c_M_halves 34 = .ok (.aload_n 0, 1) := by decide +kernel
theorem d_M_halves_35 : decode c_M_halves 35 = .ok (.iconst 4, 1) := by decide +kernel
theorem d_M_halves_36 : decode c_M_halves 36 = .ok (.iload_n 1, 1) := by decide +kernel
theorem d_M_halves_37 : decode c_M_halves 37 = .ok (.i2l, 1) := by decide +kernel
theorem d_M_halves_38 : decode c_M_halves 38 = .ok (.invokevirtual 87, 3) := by decide +kernel
theorem d_M_halves_41 : decode c_M_halves 41 = .ok (.aload_n 0, 1) := by decide +kernel
theorem d_M_halves_42 : decode c_M_halves 42 = .ok (.iconst 5, 1) := by decide +kernel
theorem d_M_halves_43 : decode c_M_halves 43 = .ok (.iconst 4, 1) := by decide +kernel
theorem d_M_halves_44 : decode c_M_halves 44 = .ok (.lconst 1, 1) := by decide +kernel
theorem d_M_halves_45 : decode c_M_halves 45 = .ok (.invokevirtual 50, 3) := by decide +kernel
theorem d_M_halves_48 : decode c_M_halves 48 = .ok (.goto (-40), 3) := by decide +kernel
theorem d_M_halves_51 : decode c_M_halves 51 = .ok (.iload_n 1, 1) := by decide +kernel
theorem d_M_halves_52 : decode c_M_halves 52 = .ok (.ireturn, 1) := by decide +kernel
theorem d_M_cubes_0 : decode c_M_cubes 0 = .ok (.aload_n 0, 1) := by decide +kernel
theorem d_M_cubes_1 : decode c_M_cubes 1 = .ok (.iconst 3, 1) := by decide +kernel
theorem d_M_cubes_2 : decode c_M_cubes 2 = .ok (.iconst 2, 1) := by decide +kernel
theorem d_M_cubes_3 : decode c_M_cubes 3 = .ok (.invokevirtual 70, 3) := by decide +kernel
theorem d_M_cubes_6 : decode c_M_cubes 6 = .ok (.aload_n 0, 1) := by decide +kernel
theorem d_M_cubes_7 : decode c_M_cubes 7 = .ok (.iconst 3, 1) := by decide +kernel
theorem d_M_cubes_8 : decode c_M_cubes 8 = .ok (.ldc2_w 73, 3) := by decide +kernel
theorem d_M_cubes_11 : decode c_M_cubes 11 = .ok (.invokevirtual 87, 3) := by decide +kernel
theorem d_M_cubes_14 : decode c_M_cubes 14 = .ok (.iconst 1, 1) := by decide +kernel
theorem d_M_cubes_15 : decode c_M_cubes 15 = .ok (.istore_n 1, 1) := by decide +kernel
theorem d_M_cubes_16 : decode c_M_cubes 16 = .ok (.aload_n 0, 1) := by decide +kernel
theorem d_M_cubes_17 : decode c_M_cubes 17 = .ok (.getfield 13, 3) := by decide +kernel
theorem d_M_cubes_20 : decode c_M_cubes 20 = .ok (.iconst 3, 1) := by decide +kernel
theorem d_M_cubes_21 : decode c_M_cubes 21 = .ok (.iaload, 1) := by decide +kernel
theorem d_M_cubes_22 : decode c_M_cubes 22 = .ok (.ifCond .le 81, 3) := by decide +kernel
theorem d_M_cubes_25 : decode c_M_cubes 25 = .ok (.aload_n 0, 1) := by decide +kernel
theorem d_M_cubes_26 : decode c_M_cubes 26 = .ok (.iconst 4, 1) := by decide +kernel
theorem d_M_cubes_27 : decode c_M_cubes 27 = .ok (.iconst 3, 1) := by decide +kernel
theorem d_M_cubes_28 : decode c_M_cubes 28 = .ok (.invokevirtual 70, 3) := by decide +kernel
theorem d_M_cubes_31 : decode c_M_cubes 31 = .ok (.aload_n 0, 1) := by decide +kernel
theorem d_M_cubes_32 : decode c_M_cubes 32 = .ok (.iconst 4, 1) := by decide +kernel
theorem d_M_cubes_33 : decode c_M_cubes 33 = .ok (.iload_n 1, 1) := by decide +kernel
theorem d_M_cubes_34 : decode c_M_cubes 34 = .ok (.i2l, 1) := by decide +kernel
theorem d_M_cubes_35 : decode c_M_cubes 35 = .ok (.iload_n 1, 1) := by decide +kernel
theorem d_M_cubes_36 : decode c_M_cubes 36 = .ok (.i2l, 1) := by decide +kernel
theorem d_M_cubes_37 : decode c_M_cubes 37 = .ok (.lmul, 1) := by decide +kernel
theorem d_M_cubes_38 : decode c_M_cubes 38 = .ok (.iload_n 1, 1) := by decide +kernel
theorem d_M_cubes_39 : decode c_M_cubes 39 = .ok (.i2l, 1) := by decide +kernel
theorem d_M_cubes_40 : decode c_M_cubes 40 = .ok (.lmul, 1) := by decide +kernel
theorem d_M_cubes_41 : decode c_M_cubes 41 = .ok (.invokevirtual 87, 3) := by decide +kernel
theorem d_M_cubes_44 : decode c_M_cubes 44 = .ok (.iload_n 1, 1) := by decide +kernel
theorem d_M_cubes_45 : decode c_M_cubes 45 = .ok (.iconst 2, 1) := by decide +kernel
theorem d_M_cubes_46 : decode c_M_cubes 46 = .ok (.irem, 1) := by decide +kernel
theorem d_M_cubes_47 : decode c_M_cubes 47 = .ok (.iconst 1, 1) := by decide +kernel
theorem d_M_cubes_48 : decode c_M_cubes 48 = .ok (.if_icmp .ne 15, 3) := by decide +kernel
theorem d_M_cubes_51 : decode c_M_cubes 51 = .ok (.aload_n 0, 1) := by decide +kernel
theorem d_M_cubes_52 : decode c_M_cubes 52 = .ok (.iconst 5, 1) := by decide +kernel
theorem d_M_cubes_53 : decode c_M_cubes 53 = .ok (.iconst 4, 1) := by decide +kernel
theorem d_M_cubes_54 : decode c_M_cubes 54 = .ok (.ldc2_w 90, 3) := by decide +kernel
theorem d_M_cubes_57 : decode c_M_cubes 57 = .ok (.invokevirtual 50, 3) := by decide +kernel
theorem d_M_cubes_60 : decode c_M_cubes 60 = .ok (.goto 12, 3) := by decide +kernel
theorem d_M_cubes_63 : decode c_M_cubes 63 = .ok (.aload_n 0, 1) := by decide +kernel
theorem d_M_cubes_64 : decode c_M_cubes 64 = .ok (.iconst 5, 1) := by decide +kernel
theorem d_M_cubes_65 : decode c_M_cubes 65 = .ok (.iconst 4, 1) := by decide +kernel
theorem d_M_cubes_66 : decode c_M_cubes 66 = .ok (.ldc2_w 90, 3) := by decide +kernel
theorem d_M_cubes_69 : decode c_M_cubes 69 = .ok (.invokevirtual 64, 3) := by decide +kernel
theorem d_M_cubes_72 : decode c_M_cubes 72 = .ok (.aload_n 0, 1) := by decide +kernel
theorem d_M_cubes_73 : decode c_M_cubes 73 = .ok (.iconst 3, 1) := by decide +kernel
theorem d_M_cubes_74 : decode c_M_cubes 74 = .ok (.iload_n 1, 1) := by decide +kernel
theorem d_M_cubes_75 : decode c_M_cubes 75 = .ok (.i2l, 1) := by decide +kernel
theorem d_M_cubes_76 : decode c_M_cubes 76 = .ok (.lconst 1, 1) := by decide +kernel
theorem d_M_cubes_77 : decode c_M_cubes 77 = .ok (.ladd, 1) := by decide +kernel
theorem d_M_cubes_78 : decode c_M_cubes 78 = .ok (.lconst 0, 1) := by decide +kernel
theorem d_M_cubes_79 : decode c_M_cubes 79 = .ok (.invokevirtual 60, 3) := by decide +kernel
theorem d_M_cubes_82 : decode c_M_cubes 82 = .ok (.aload_n 0, 1) := by decide +kernel
theorem d_M_cubes_83 : decode c_M_cubes 83 = .ok (.iconst 3, 1) := by decide +kernel
theorem d_M_cubes_84 : decode c_M_cubes 84 = .ok (.ldc2_w 100, 3) := by decide +kernel
theorem d_M_cubes_87 : decode c_M_cubes 87 = .ok (.iload_n 1, 1) := by decide +kernel
theorem d_M_cubes_88 : decode c_M_cubes 88 = .ok (.i2l, 1) := by decide +kernel
theorem d_M_cubes_89 : decode c_M_cubes 89 = .ok (.lmul, 1) := by decide +kernel
theorem d_M_cubes_90 : decode c_M_cubes 90 = .ok (.ldc2_w 73, 3) := by decide +kernel
theorem d_M_cubes_93 : decode c_M_cubes 93 = .ok (.ladd, 1) := by decide +kernel
theorem d_M_cubes_94 : decode c_M_cubes 94 = .ok (.invokevirtual 87, 3) := by decide +kernel
theorem d_M_cubes_97 : decode c_M_cubes 97 = .ok (.iinc 1 1, 3) := by decide +kernel
theorem d_M_cubes_100 : decode c_M_cubes 100 = .ok (.goto (-84), 3) := by decide +kernel
theorem d_M_cubes_103 : decode c_M_cubes 103 = .ok (.aload_n 0, 1) := by decide +kernel
theorem d_M_cubes_104 : decode c_M_cubes 104 = .ok (.iconst 5, 1) := by decide +kernel
theorem d_M_cubes_105 : decode c_M_cubes 105 = .ok (.ldc2_w 73, 3) := by decide +kernel
theorem d_M_cubes_108 : decode c_M_cubes 108 = .ok (.invokevirtual 87, 3) := by decide +kernel
theorem d_M_cubes_111 : decode c_M_cubes 111 = .ok (.iload_n 1, 1) := by decide +kernel
theorem d_M_cubes_112 : decode c_M_cubes 112 = .ok (.ireturn, 1) := by decide +kernel
theorem d_M_told_0 : decode c_M_told 0 = .ok (.aload_n 0, 1) := by decide +kernel
theorem d_M_told_1 : decode c_M_told 1 = .ok (.iload_n 1, 1) := by decide +kernel
theorem d_M_told_2 : decode c_M_told 2 = .ok (.putfield 16, 3) := by decide +kernel
theorem d_M_told_5 : decode c_M_told 5 = .ok (.aload_n 0, 1) := by decide +kernel
theorem d_M_told_6 : decode c_M_told 6 = .ok (.iconst 0, 1) := by decide +kernel
theorem d_M_told_7 : decode c_M_told 7 = .ok (.putfield 136, 3) := by decide +kernel
theorem d_M_told_10 : decode c_M_told 10 = .ok (.aload_n 0, 1) := by decide +kernel
theorem d_M_told_11 : decode c_M_told 11 = .ok (.invokevirtual 140, 3) := by decide +kernel
theorem d_M_told_14 : decode c_M_told 14 = .ok (.ireturn, 1) := by decide +kernel
theorem d_M_howMany_0 : decode c_M_howMany 0 = .ok (.aload_n 0, 1) := by decide +kernel
theorem d_M_howMany_1 : decode c_M_howMany 1 = .ok (.getfield 136, 3) := by decide +kernel
theorem d_M_howMany_4 : decode c_M_howMany 4 = .ok (.ifCond .ne 7, 3) := by decide +kernel
theorem d_M_howMany_7 : decode c_M_howMany 7 = .ok (.aload_n 0, 1) := by decide +kernel
theorem d_M_howMany_8 : decode c_M_howMany 8 = .ok (.invokevirtual 143, 3) := by decide +kernel
theorem d_M_howMany_11 : decode c_M_howMany 11 = .ok (.aload_n 0, 1) := by decide +kernel
theorem d_M_howMany_12 : decode c_M_howMany 12 = .ok (.getfield 146, 3) := by decide +kernel
theorem d_M_howMany_15 : decode c_M_howMany 15 = .ok (.ireturn, 1) := by decide +kernel
theorem d_M_tell_0 : decode c_M_tell 0 = .ok (.aload_n 0, 1) := by decide +kernel
theorem d_M_tell_1 : decode c_M_tell 1 = .ok (.getfield 16, 3) := by decide +kernel
theorem d_M_tell_4 : decode c_M_tell 4 = .ok (.istore_n 1, 1) := by decide +kernel
theorem d_M_tell_5 : decode c_M_tell 5 = .ok (.iconst 1, 1) := by decide +kernel
theorem d_M_tell_6 : decode c_M_tell 6 = .ok (.istore_n 2, 1) := by decide +kernel
theorem d_M_tell_7 : decode c_M_tell 7 = .ok (.iload_n 1, 1) := by decide +kernel
theorem d_M_tell_8 : decode c_M_tell 8 = .ok (.aload_n 0, 1) := by decide +kernel
theorem d_M_tell_9 : decode c_M_tell 9 = .ok (.getfield 16, 3) := by decide +kernel
theorem d_M_tell_12 : decode c_M_tell 12 = .ok (.imul, 1) := by decide +kernel
theorem d_M_tell_13 : decode c_M_tell 13 = .ok (.ldc 149, 2) := by decide +kernel
theorem d_M_tell_15 : decode c_M_tell 15 = .ok (.if_icmp .gt 16, 3) := by decide +kernel
theorem d_M_tell_18 : decode c_M_tell 18 = .ok (.iload_n 1, 1) := by decide +kernel
theorem d_M_tell_19 : decode c_M_tell 19 = .ok (.aload_n 0, 1) := by decide +kernel
theorem d_M_tell_20 : decode c_M_tell 20 = .ok (.getfield 16, 3) := by decide +kernel
theorem d_M_tell_23 : decode c_M_tell 23 = .ok (.imul, 1) := by decide +kernel
theorem d_M_tell_24 : decode c_M_tell 24 = .ok (.istore_n 1, 1) := by decide +kernel
theorem d_M_tell_25 : decode c_M_tell 25 = .ok (.iinc 2 1, 3) := by decide +kernel
theorem d_M_tell_28 : decode c_M_tell 28 = .ok (.goto (-21), 3) := by decide +kernel
theorem d_M_tell_31 : decode c_M_tell 31 = .ok (.aload_n 0, 1) := by decide +kernel
theorem d_M_tell_32 : decode c_M_tell 32 = .ok (.iconst 3, 1) := by decide +kernel
theorem d_M_tell_33 : decode c_M_tell 33 = .ok (.iconst 0, 1) := by decide +kernel
theorem d_M_tell_34 : decode c_M_tell 34 = .ok (.invokevirtual 70, 3) := by decide +kernel
theorem d_M_tell_37 : decode c_M_tell 37 = .ok (.aload_n 0, 1) := by decide +kernel
theorem d_M_tell_38 : decode c_M_tell 38 = .ok (.iconst 0, 1) := by decide +kernel
theorem d_M_tell_39 : decode c_M_tell 39 = .ok (.putfield 146, 3) := by decide +kernel
theorem d_M_tell_42 : decode c_M_tell 42 = .ok (.aload_n 0, 1) := by decide +kernel
theorem d_M_tell_43 : decode c_M_tell 43 = .ok (.getfield 13, 3) := by decide +kernel
theorem d_M_tell_46 : decode c_M_tell 46 = .ok (.iconst 3, 1) := by decide +kernel
theorem d_M_tell_47 : decode c_M_tell 47 = .ok (.iaload, 1) := by decide +kernel
theorem d_M_tell_48 : decode c_M_tell 48 = .ok (.ifCond .le 91, 3) := by decide +kernel
theorem d_M_tell_51 : decode c_M_tell 51 = .ok (.aload_n 0, 1) := by decide +kernel
theorem d_M_tell_52 : decode c_M_tell 52 = .ok (.iconst 3, 1) := by decide +kernel
theorem d_M_tell_53 : decode c_M_tell 53 = .ok (.iload_n 1, 1) := by decide +kernel
theorem d_M_tell_54 : decode c_M_tell 54 = .ok (.i2l, 1) := by decide +kernel
theorem d_M_tell_55 : decode c_M_tell 55 = .ok (.invokevirtual 87, 3) := by decide +kernel
theorem d_M_tell_58 : decode c_M_tell 58 = .ok (.iconst 0, 1) := by decide +kernel
theorem d_M_tell_59 : decode c_M_tell 59 = .ok (.istore_n 3, 1) := by decide +kernel
theorem d_M_tell_60 : decode c_M_tell 60 = .ok (.iload_n 3, 1) := by decide +kernel
theorem d_M_tell_61 : decode c_M_tell 61 = .ok (.iload_n 2, 1) := by decide +kernel
theorem d_M_tell_62 : decode c_M_tell 62 = .ok (.if_icmp .ge 74, 3) := by decide +kernel
theorem d_M_tell_65 : decode c_M_tell 65 = .ok (.aload_n 0, 1) := by decide +kernel
theorem d_M_tell_66 : decode c_M_tell 66 = .ok (.getfield 23, 3) := by decide +kernel
theorem d_M_tell_69 : decode c_M_tell 69 = .ok (.aload_n 0, 1) := by decide +kernel
theorem d_M_tell_70 : decode c_M_tell 70 = .ok (.getfield 146, 3) := by decide +kernel
theorem d_M_tell_73 : decode c_M_tell 73 = .ok (.aload_n 0, 1) := by decide +kernel
theorem d_M_tell_74 : decode c_M_tell 74 = .ok (.getfield 42, 3) := by decide +kernel
theorem d_M_tell_77 : decode c_M_tell 77 = .ok (.aload_n 0, 1) := by decide +kernel
theorem d_M_tell_78 : decode c_M_tell 78 = .ok (.getfield 16, 3) := by decide +kernel
theorem d_M_tell_81 : decode c_M_tell 81 = .ok (.i2l, 1) := by decide +kernel
theorem d_M_tell_82 : decode c_M_tell 82 = .ok (.lrem, 1) := by decide +kernel
theorem d_M_tell_83 : decode c_M_tell 83 = .ok (.l2i, 1) := by decide +kernel
theorem d_M_tell_84 : decode c_M_tell 84 = .ok (.iastore, 1) := by decide +kernel
theorem d_M_tell_85 : decode c_M_tell 85 = .ok (.aload_n 0, 1) := by decide +kernel
theorem d_M_tell_86 : decode c_M_tell 86 = .ok (.aload_n 0, 1) := by decide +kernel
theorem d_M_tell_87 : decode c_M_tell 87 = .ok (.getfield 42, 3) := by decide +kernel
theorem d_M_tell_90 : decode c_M_tell 90 = .ok (.aload_n 0, 1) := by decide +kernel
theorem d_M_tell_91 : decode c_M_tell 91 = .ok (.getfield 16, 3) := by decide +kernel
theorem d_M_tell_94 : decode c_M_tell 94 = .ok (.i2l, 1) := by decide +kernel
theorem d_M_tell_95 : decode c_M_tell 95 = .ok (.ldiv, 1) := by decide +kernel
theorem d_M_tell_96 : decode c_M_tell 96 = .ok (.putfield 42, 3) := by decide +kernel
theorem d_M_tell_99 : decode c_M_tell 99 = .ok (.aload_n 0, 1) := by decide +kernel
theorem d_M_tell_100 : decode c_M_tell 100 = .ok (.dup, 1) := by decide +kernel
theorem d_M_tell_101 : decode c_M_tell 101 = .ok (.getfield 146, 3) := by decide +kernel
theorem d_M_tell_104 : decode c_M_tell 104 = .ok (.iconst 1, 1) := by decide +kernel
theorem d_M_tell_105 : decode c_M_tell 105 = .ok (.iadd, 1) := by decide +kernel
theorem d_M_tell_106 : decode c_M_tell 106 = .ok (.putfield 146, 3) := by decide +kernel
theorem d_M_tell_109 : decode c_M_tell 109 = .ok (.aload_n 0, 1) := by decide +kernel
theorem d_M_tell_110 : decode c_M_tell 110 = .ok (.getfield 13, 3) := by decide +kernel
theorem d_M_tell_113 : decode c_M_tell 113 = .ok (.iconst 3, 1) := by decide +kernel
theorem d_M_tell_114 : decode c_M_tell 114 = .ok (.iaload, 1) := by decide +kernel
theorem d_M_tell_115 : decode c_M_tell 115 = .ok (.ifCond .ne 15, 3) := by decide +kernel
theorem d_M_tell_118 : decode c_M_tell 118 = .ok (.aload_n 0, 1) := by decide +kernel
theorem d_M_tell_119 : decode c_M_tell 119 = .ok (.getfield 42, 3) := by decide +kernel
theorem d_M_tell_122 : decode c_M_tell 122 = .ok (.lconst 0, 1) := by decide +kernel
theorem d_M_tell_123 : decode c_M_tell 123 = .ok (.lcmp, 1) := by decide +kernel
theorem d_M_tell_124 : decode c_M_tell 124 = .ok (.ifCond .ne 6, 3) := by decide +kernel
theorem d_M_tell_127 : decode c_M_tell 127 = .ok (.goto 9, 3) := by decide +kernel
theorem d_M_tell_130 : decode c_M_tell 130 = .ok (.iinc 3 1, 3) := by decide +kernel
theorem d_M_tell_133 : decode c_M_tell 133 = .ok (.goto (-73), 3) := by decide +kernel
theorem d_M_tell_136 : decode c_M_tell 136 = .ok (.goto (-94), 3) := by decide +kernel
theorem d_M_tell_139 : decode c_M_tell 139 = .ok (.aload_n 0, 1) := by decide +kernel
theorem d_M_tell_140 : decode c_M_tell 140 = .ok (.getfield 146, 3) := by decide +kernel
theorem d_M_tell_143 : decode c_M_tell 143 = .ok (.ifCond .ne 15, 3) := by decide +kernel
theorem d_M_tell_146 : decode c_M_tell 146 = .ok (.aload_n 0, 1) := by decide +kernel
theorem d_M_tell_147 : decode c_M_tell 147 = .ok (.getfield 23, 3) := by decide +kernel
theorem d_M_tell_150 : decode c_M_tell 150 = .ok (.iconst 0, 1) := by decide +kernel
theorem d_M_tell_151 : decode c_M_tell 151 = .ok (.iconst 0, 1) := by decide +kernel
theorem d_M_tell_152 : decode c_M_tell 152 = .ok (.iastore, 1) := by decide +kernel
theorem d_M_tell_153 : decode c_M_tell 153 = .ok (.aload_n 0, 1) := by decide +kernel
theorem d_M_tell_154 : decode c_M_tell 154 = .ok (.iconst 1, 1) := by decide +kernel
theorem d_M_tell_155 : decode c_M_tell 155 = .ok (.putfield 146, 3) := by decide +kernel
theorem d_M_tell_158 : decode c_M_tell 158 = .ok (.iconst 0, 1) := by decide +kernel
theorem d_M_tell_159 : decode c_M_tell 159 = .ok (.istore_n 3, 1) := by decide +kernel
theorem d_M_tell_160 : decode c_M_tell 160 = .ok (.iload_n 3, 1) := by decide +kernel
theorem d_M_tell_161 : decode c_M_tell 161 = .ok (.aload_n 0, 1) := by decide +kernel
theorem d_M_tell_162 : decode c_M_tell 162 = .ok (.getfield 146, 3) := by decide +kernel
theorem d_M_tell_165 : decode c_M_tell 165 = .ok (.iconst 2, 1) := by decide +kernel
theorem d_M_tell_166 : decode c_M_tell 166 = .ok (.idiv, 1) := by decide +kernel
theorem d_M_tell_167 : decode c_M_tell 167 = .ok (.if_icmp .ge 51, 3) := by decide +kernel
theorem d_M_tell_170 : decode c_M_tell 170 = .ok (.aload_n 0, 1) := by decide +kernel
theorem d_M_tell_171 : decode c_M_tell 171 = .ok (.getfield 23, 3) := by decide +kernel
theorem d_M_tell_174 : decode c_M_tell 174 = .ok (.iload_n 3, 1) := by decide +kernel
theorem d_M_tell_175 : decode c_M_tell 175 = .ok (.iaload, 1) := by decide +kernel
theorem d_M_tell_176 : decode c_M_tell 176 = .ok (.istore 4, 2) := by decide +kernel
theorem d_M_tell_178 : decode c_M_tell 178 = .ok (.aload_n 0, 1) := by decide +kernel
theorem d_M_tell_179 : decode c_M_tell 179 = .ok (.getfield 23, 3) := by decide +kernel
theorem d_M_tell_182 : decode c_M_tell 182 = .ok (.iload_n 3, 1) := by decide +kernel
theorem d_M_tell_183 : decode c_M_tell 183 = .ok (.aload_n 0, 1) := by decide +kernel
theorem d_M_tell_184 : decode c_M_tell 184 = .ok (.getfield 23, 3) := by decide +kernel
theorem d_M_tell_187 : decode c_M_tell 187 = .ok (.aload_n 0, 1) := by decide +kernel
theorem d_M_tell_188 : decode c_M_tell 188 = .ok (.getfield 146, 3) := by decide +kernel
theorem d_M_tell_191 : decode c_M_tell 191 = .ok (.iconst 1, 1) := by decide +kernel
theorem d_M_tell_192 : decode c_M_tell 192 = .ok (.isub, 1) := by decide +kernel
theorem d_M_tell_193 : decode c_M_tell 193 = .ok (.iload_n 3, 1) := by decide +kernel
theorem d_M_tell_194 : decode c_M_tell 194 = .ok (.isub, 1) := by decide +kernel
theorem d_M_tell_195 : decode c_M_tell 195 = .ok (.iaload, 1) := by decide +kernel
theorem d_M_tell_196 : decode c_M_tell 196 = .ok (.iastore, 1) := by decide +kernel
theorem d_M_tell_197 : decode c_M_tell 197 = .ok (.aload_n 0, 1) := by decide +kernel
theorem d_M_tell_198 : decode c_M_tell 198 = .ok (.getfield 23, 3) := by decide +kernel
theorem d_M_tell_201 : decode c_M_tell 201 = .ok (.aload_n 0, 1) := by decide +kernel
theorem d_M_tell_202 : decode c_M_tell 202 = .ok (.getfield 146, 3) := by decide +kernel
theorem d_M_tell_205 : decode c_M_tell 205 = .ok (.iconst 1, 1) := by decide +kernel
theorem d_M_tell_206 : decode c_M_tell 206 = .ok (.isub, 1) := by decide +kernel
theorem d_M_tell_207 : decode c_M_tell 207 = .ok (.iload_n 3, 1) := by decide +kernel
theorem d_M_tell_208 : decode c_M_tell 208 = .ok (.isub, 1) := by decide +kernel
theorem d_M_tell_209 : decode c_M_tell 209 = .ok (.iload 4, 2) := by decide +kernel
theorem d_M_tell_211 : decode c_M_tell 211 = .ok (.iastore, 1) := by decide +kernel
theorem d_M_tell_212 : decode c_M_tell 212 = .ok (.iinc 3 1, 3) := by decide +kernel
theorem d_M_tell_215 : decode c_M_tell 215 = .ok (.goto (-55), 3) := by decide +kernel
theorem d_M_tell_218 : decode c_M_tell 218 = .ok (.aload_n 0, 1) := by decide +kernel
theorem d_M_tell_219 : decode c_M_tell 219 = .ok (.iconst 1, 1) := by decide +kernel
theorem d_M_tell_220 : decode c_M_tell 220 = .ok (.putfield 136, 3) := by decide +kernel
theorem d_M_tell_223 : decode c_M_tell 223 = .ok (.return_, 1) := by decide +kernel
theorem d_M_root_0 : decode c_M_root 0 = .ok (.aload_n 0, 1) := by decide +kernel
theorem d_M_root_1 : decode c_M_root 1 = .ok (.lload_n 1, 1) := by decide +kernel
theorem d_M_root_2 : decode c_M_root 2 = .ok (.lconst 0, 1) := by decide +kernel
theorem d_M_root_3 : decode c_M_root 3 = .ok (.lcmp, 1) := by decide +kernel
theorem d_M_root_4 : decode c_M_root 4 = .ok (.ifCond .ge 7, 3) := by decide +kernel
theorem d_M_root_7 : decode c_M_root 7 = .ok (.iconst 1, 1) := by decide +kernel
theorem d_M_root_8 : decode c_M_root 8 = .ok (.goto 4, 3) := by decide +kernel
theorem d_M_root_11 : decode c_M_root 11 = .ok (.iconst 0, 1) := by decide +kernel
theorem d_M_root_12 : decode c_M_root 12 = .ok (.iload_n 3, 1) := by decide +kernel
theorem d_M_root_13 : decode c_M_root 13 = .ok (.iload 4, 2) := by decide +kernel
theorem d_M_root_15 : decode c_M_root 15 = .ok (.invokevirtual 150, 3) := by decide +kernel
theorem d_M_root_18 : decode c_M_root 18 = .ok (.ifCond .eq 5, 3) := by decide +kernel
theorem d_M_root_21 : decode c_M_root 21 = .ok (.iconst 0, 1) := by decide +kernel
theorem d_M_root_22 : decode c_M_root 22 = .ok (.ireturn, 1) := by decide +kernel
theorem d_M_root_23 : decode c_M_root 23 = .ok (.aload_n 0, 1) := by decide +kernel
theorem d_M_root_24 : decode c_M_root 24 = .ok (.iconst 2, 1) := by decide +kernel
theorem d_M_root_25 : decode c_M_root 25 = .ok (.iload 4, 2) := by decide +kernel
theorem d_M_root_27 : decode c_M_root 27 = .ok (.iconst 2, 1) := by decide +kernel
theorem d_M_root_28 : decode c_M_root 28 = .ok (.iload_n 3, 1) := by decide +kernel
theorem d_M_root_29 : decode c_M_root 29 = .ok (.imul, 1) := by decide +kernel
theorem d_M_root_30 : decode c_M_root 30 = .ok (.invokevirtual 102, 3) := by decide +kernel
theorem d_M_root_33 : decode c_M_root 33 = .ok (.aload_n 0, 1) := by decide +kernel
theorem d_M_root_34 : decode c_M_root 34 = .ok (.iconst 3, 1) := by decide +kernel
theorem d_M_root_35 : decode c_M_root 35 = .ok (.lload_n 1, 1) := by decide +kernel
theorem d_M_root_36 : decode c_M_root 36 = .ok (.invokevirtual 83, 3) := by decide +kernel
theorem d_M_root_39 : decode c_M_root 39 = .ok (.aload_n 0, 1) := by decide +kernel
theorem d_M_root_40 : decode c_M_root 40 = .ok (.iconst 5, 1) := by decide +kernel
theorem d_M_root_41 : decode c_M_root 41 = .ok (.iconst 3, 1) := by decide +kernel
theorem d_M_root_42 : decode c_M_root 42 = .ok (.iconst 2, 1) := by decide +kernel
theorem d_M_root_43 : decode c_M_root 43 = .ok (.invokevirtual 163, 3) := by decide +kernel
theorem d_M_root_46 : decode c_M_root 46 = .ok (.aload_n 0, 1) := by decide +kernel
theorem d_M_root_47 : decode c_M_root 47 = .ok (.bipush 6, 2) := by decide +kernel
theorem d_M_root_49 : decode c_M_root 49 = .ok (.iconst 5, 1) := by decide +kernel
theorem d_M_root_50 : decode c_M_root 50 = .ok (.invokevirtual 121, 3) := by decide +kernel
theorem d_M_root_53 : decode c_M_root 53 = .ok (.aload_n 0, 1) := by decide +kernel
theorem d_M_root_54 : decode c_M_root 54 = .ok (.iconst 0, 1) := by decide +kernel
theorem d_M_root_55 : decode c_M_root 55 = .ok (.bipush 6, 2) := by decide +kernel
theorem d_M_root_57 : decode c_M_root 57 = .ok (.invokevirtual 70, 3) := by decide +kernel
theorem d_M_root_60 : decode c_M_root 60 = .ok (.aload_n 0, 1) := by decide +kernel
theorem d_M_root_61 : decode c_M_root 61 = .ok (.iload 4, 2) := by decide +kernel
theorem d_M_root_63 : decode c_M_root 63 = .ok (.invokevirtual 160, 3) := by decide +kernel
theorem d_M_root_66 : decode c_M_root 66 = .ok (.ireturn, 1) := by decide +kernel
theorem d_M_product_0 : decode c_M_product 0 = .ok (.aload_n 0, 1) := by decide +kernel
theorem d_M_product_1 : decode c_M_product 1 = .ok (.getfield 13, 3) := by decide +kernel
theorem d_M_product_4 : decode c_M_product 4 = .ok (.iload_n 1, 1) := by decide +kernel
theorem d_M_product_5 : decode c_M_product 5 = .ok (.iconst 0, 1) := by decide +kernel
theorem d_M_product_6 : decode c_M_product 6 = .ok (.iastore, 1) := by decide +kernel
theorem d_M_product_7 : decode c_M_product 7 = .ok (.aload_n 0, 1) := by decide +kernel
theorem d_M_product_8 : decode c_M_product 8 = .ok (.getfield 13, 3) := by decide +kernel
theorem d_M_product_11 : decode c_M_product 11 = .ok (.iload_n 2, 1) := by decide +kernel
theorem d_M_product_12 : decode c_M_product 12 = .ok (.iaload, 1) := by decide +kernel
theorem d_M_product_13 : decode c_M_product 13 = .ok (.iconst 1, 1) := by decide +kernel
theorem d_M_product_14 : decode c_M_product 14 = .ok (.isub, 1) := by decide +kernel
theorem d_M_product_15 : decode c_M_product 15 = .ok (.istore 4, 2) := by decide +kernel
theorem d_M_product_17 : decode c_M_product 17 = .ok (.iload 4, 2) := by decide +kernel
theorem d_M_product_19 : decode c_M_product 19 = .ok (.ifCond .lt 29, 3) := by decide +kernel
theorem d_M_product_22 : decode c_M_product 22 = .ok (.aload_n 0, 1) := by decide +kernel
theorem d_M_product_23 : decode c_M_product 23 = .ok (.iload_n 1, 1) := by decide +kernel
theorem d_M_product_24 : decode c_M_product 24 = .ok (.iconst 1, 1) := by decide +kernel
theorem d_M_product_25 : decode c_M_product 25 = .ok (.invokevirtual 46, 3) := by decide +kernel
theorem d_M_product_28 : decode c_M_product 28 = .ok (.aload_n 0, 1) := by decide +kernel
theorem d_M_product_29 : decode c_M_product 29 = .ok (.iload_n 1, 1) := by decide +kernel
theorem d_M_product_30 : decode c_M_product 30 = .ok (.iload_n 3, 1) := by decide +kernel
theorem d_M_product_31 : decode c_M_product 31 = .ok (.aload_n 0, 1) := by decide +kernel
theorem d_M_product_32 : decode c_M_product 32 = .ok (.iload_n 2, 1) := by decide +kernel
theorem d_M_product_33 : decode c_M_product 33 = .ok (.iload 4, 2) := by decide +kernel
theorem d_M_product_35 : decode c_M_product 35 = .ok (.invokevirtual 34, 3) := by decide +kernel
theorem d_M_product_38 : decode c_M_product 38 = .ok (.i2l, 1) := by decide +kernel
theorem d_M_product_39 : decode c_M_product 39 = .ok (.invokevirtual 50, 3) := by decide +kernel
theorem d_M_product_42 : decode c_M_product 42 = .ok (.iinc 4 (-1), 3) := by decide +kernel
theorem d_M_product_45 : decode c_M_product 45 = .ok (.goto (-28), 3) := by decide +kernel
theorem d_M_product_48 : decode c_M_product 48 = .ok (.return_, 1) := by decide +kernel
theorem d_M_over_0 : decode c_M_over 0 = .ok (.aload_n 0, 1) := by decide +kernel
theorem d_M_over_1 : decode c_M_over 1 = .ok (.lload_n 1, 1) := by decide +kernel
theorem d_M_over_2 : decode c_M_over 2 = .ok (.lconst 0, 1) := by decide +kernel
theorem d_M_over_3 : decode c_M_over 3 = .ok (.lcmp, 1) := by decide +kernel
theorem d_M_over_4 : decode c_M_over 4 = .ok (.ifCond .lt 9, 3) := by decide +kernel
theorem d_M_over_7 : decode c_M_over 7 = .ok (.lload_n 3, 1) := by decide +kernel
theorem d_M_over_8 : decode c_M_over 8 = .ok (.lconst 1, 1) := by decide +kernel
theorem d_M_over_9 : decode c_M_over 9 = .ok (.lcmp, 1) := by decide +kernel
theorem d_M_over_10 : decode c_M_over 10 = .ok (.ifCond .ge 7, 3) := by decide +kernel
theorem d_M_over_13 : decode c_M_over 13 = .ok (.iconst 1, 1) := by decide +kernel
theorem d_M_over_14 : decode c_M_over 14 = .ok (.goto 4, 3) := by decide +kernel
theorem d_M_over_17 : decode c_M_over 17 = .ok (.iconst 0, 1) := by decide +kernel
theorem d_M_over_18 : decode c_M_over 18 = .ok (.iload 5, 2) := by decide +kernel
theorem d_M_over_20 : decode c_M_over 20 = .ok (.iload 6, 2) := by decide +kernel
theorem d_M_over_22 : decode c_M_over 22 = .ok (.invokevirtual 150, 3) := by decide +kernel
theorem d_M_over_25 : decode c_M_over 25 = .ok (.ifCond .eq 5, 3) := by decide +kernel
theorem d_M_over_28 : decode c_M_over 28 = .ok (.iconst 0, 1) := by decide +kernel
theorem d_M_over_29 : decode c_M_over 29 = .ok (.ireturn, 1) := by decide +kernel
theorem d_M_over_30 : decode c_M_over 30 = .ok (.aload_n 0, 1) := by decide +kernel
theorem d_M_over_31 : decode c_M_over 31 = .ok (.iconst 2, 1) := by decide +kernel
theorem d_M_over_32 : decode c_M_over 32 = .ok (.iload 6, 2) := by decide +kernel
theorem d_M_over_34 : decode c_M_over 34 = .ok (.iload 5, 2) := by decide +kernel
theorem d_M_over_36 : decode c_M_over 36 = .ok (.invokevirtual 102, 3) := by decide +kernel
theorem d_M_over_39 : decode c_M_over 39 = .ok (.aload_n 0, 1) := by decide +kernel
theorem d_M_over_40 : decode c_M_over 40 = .ok (.iconst 3, 1) := by decide +kernel
theorem d_M_over_41 : decode c_M_over 41 = .ok (.lload_n 1, 1) := by decide +kernel
theorem d_M_over_42 : decode c_M_over 42 = .ok (.invokevirtual 83, 3) := by decide +kernel
theorem d_M_over_45 : decode c_M_over 45 = .ok (.aload_n 0, 1) := by decide +kernel
theorem d_M_over_46 : decode c_M_over 46 = .ok (.iconst 5, 1) := by decide +kernel
theorem d_M_over_47 : decode c_M_over 47 = .ok (.iconst 3, 1) := by decide +kernel
theorem d_M_over_48 : decode c_M_over 48 = .ok (.iconst 2, 1) := by decide +kernel
theorem d_M_over_49 : decode c_M_over 49 = .ok (.invokevirtual 163, 3) := by decide +kernel
theorem d_M_over_52 : decode c_M_over 52 = .ok (.aload_n 0, 1) := by decide +kernel
theorem d_M_over_53 : decode c_M_over 53 = .ok (.iconst 3, 1) := by decide +kernel
theorem d_M_over_54 : decode c_M_over 54 = .ok (.lload_n 3, 1) := by decide +kernel
theorem d_M_over_55 : decode c_M_over 55 = .ok (.invokevirtual 83, 3) := by decide +kernel
theorem d_M_over_58 : decode c_M_over 58 = .ok (.aload_n 0, 1) := by decide +kernel
theorem d_M_over_59 : decode c_M_over 59 = .ok (.bipush 6, 2) := by decide +kernel
theorem d_M_over_61 : decode c_M_over 61 = .ok (.iconst 5, 1) := by decide +kernel
theorem d_M_over_62 : decode c_M_over 62 = .ok (.iconst 3, 1) := by decide +kernel
theorem d_M_over_63 : decode c_M_over 63 = .ok (.invokevirtual 166, 3) := by decide +kernel
theorem d_M_over_66 : decode c_M_over 66 = .ok (.aload_n 0, 1) := by decide +kernel
theorem d_M_over_67 : decode c_M_over 67 = .ok (.iconst 0, 1) := by decide +kernel
theorem d_M_over_68 : decode c_M_over 68 = .ok (.bipush 6, 2) := by decide +kernel
theorem d_M_over_70 : decode c_M_over 70 = .ok (.invokevirtual 70, 3) := by decide +kernel
theorem d_M_over_73 : decode c_M_over 73 = .ok (.aload_n 0, 1) := by decide +kernel
theorem d_M_over_74 : decode c_M_over 74 = .ok (.iload 6, 2) := by decide +kernel
theorem d_M_over_76 : decode c_M_over 76 = .ok (.invokevirtual 160, 3) := by decide +kernel
theorem d_M_over_79 : decode c_M_over 79 = .ok (.ireturn, 1) := by decide +kernel
theorem d_M_quotient_0 : decode c_M_quotient 0 = .ok (.aload_n 0, 1) := by decide +kernel
theorem d_M_quotient_1 : decode c_M_quotient 1 = .ok (.getfield 13, 3) := by decide +kernel
theorem d_M_quotient_4 : decode c_M_quotient 4 = .ok (.bipush 7, 2) := by decide +kernel
theorem d_M_quotient_6 : decode c_M_quotient 6 = .ok (.iconst 0, 1) := by decide +kernel
theorem d_M_quotient_7 : decode c_M_quotient 7 = .ok (.iastore, 1) := by decide +kernel
theorem d_M_quotient_8 : decode c_M_quotient 8 = .ok (.aload_n 0, 1) := by decide +kernel
theorem d_M_quotient_9 : decode c_M_quotient 9 = .ok (.getfield 13, 3) := by decide +kernel
theorem d_M_quotient_12 : decode c_M_quotient 12 = .ok (.iload_n 1, 1) := by decide +kernel
theorem d_M_quotient_13 : decode c_M_quotient 13 = .ok (.aload_n 0, 1) := by decide +kernel
theorem d_M_quotient_14 : decode c_M_quotient 14 = .ok (.getfield 13, 3) := by decide +kernel
theorem d_M_quotient_17 : decode c_M_quotient 17 = .ok (.iload_n 2, 1) := by decide +kernel
theorem d_M_quotient_18 : decode c_M_quotient 18 = .ok (.iaload, 1) := by decide +kernel
theorem d_M_quotient_19 : decode c_M_quotient 19 = .ok (.iastore, 1) := by decide +kernel
theorem d_M_quotient_20 : decode c_M_quotient 20 = .ok (.aload_n 0, 1) := by decide +kernel
theorem d_M_quotient_21 : decode c_M_quotient 21 = .ok (.getfield 13, 3) := by decide +kernel
theorem d_M_quotient_24 : decode c_M_quotient 24 = .ok (.iload_n 3, 1) := by decide +kernel
theorem d_M_quotient_25 : decode c_M_quotient 25 = .ok (.iaload, 1) := by decide +kernel
theorem d_M_quotient_26 : decode c_M_quotient 26 = .ok (.iconst 1, 1) := by decide +kernel
theorem d_M_quotient_27 : decode c_M_quotient 27 = .ok (.isub, 1) := by decide +kernel
theorem d_M_quotient_28 : decode c_M_quotient 28 = .ok (.istore 4, 2) := by decide +kernel
theorem d_M_quotient_30 : decode c_M_quotient 30 = .ok (.aload_n 0, 1) := by decide +kernel
theorem d_M_quotient_31 : decode c_M_quotient 31 = .ok (.iload_n 3, 1) := by decide +kernel
theorem d_M_quotient_32 : decode c_M_quotient 32 = .ok (.iload 4, 2) := by decide +kernel
theorem d_M_quotient_34 : decode c_M_quotient 34 = .ok (.invokevirtual 56, 3) := by decide +kernel
theorem d_M_quotient_37 : decode c_M_quotient 37 = .ok (.ldc2_w 54, 3) := by decide +kernel
theorem d_M_quotient_40 : decode c_M_quotient 40 = .ok (.ldiv, 1) := by decide +kernel
theorem d_M_quotient_41 : decode c_M_quotient 41 = .ok (.lconst 1, 1) := by decide +kernel
theorem d_M_quotient_42 : decode c_M_quotient 42 = .ok (.ladd, 1) := by decide +kernel
theorem d_M_quotient_43 : decode c_M_quotient 43 = .ok (.lstore 5, 2) := by decide +kernel
theorem d_M_quotient_45 : decode c_M_quotient 45 = .ok (.aload_n 0, 1) := by decide +kernel
theorem d_M_quotient_46 : decode c_M_quotient 46 = .ok (.getfield 13, 3) := by decide +kernel
theorem d_M_quotient_49 : decode c_M_quotient 49 = .ok (.iload_n 2, 1) := by decide +kernel
theorem d_M_quotient_50 : decode c_M_quotient 50 = .ok (.iaload, 1) := by decide +kernel
theorem d_M_quotient_51 : decode c_M_quotient 51 = .ok (.iconst 1, 1) := by decide +kernel
theorem d_M_quotient_52 : decode c_M_quotient 52 = .ok (.isub, 1) := by decide +kernel
theorem d_M_quotient_53 : decode c_M_quotient 53 = .ok (.istore 7, 2) := by decide +kernel
theorem d_M_quotient_55 : decode c_M_quotient 55 = .ok (.iload 7, 2) := by decide +kernel
theorem d_M_quotient_57 : decode c_M_quotient 57 = .ok (.ifCond .lt 112, 3) := by decide +kernel
theorem d_M_quotient_60 : decode c_M_quotient 60 = .ok (.aload_n 0, 1) := by decide +kernel
theorem d_M_quotient_61 : decode c_M_quotient 61 = .ok (.bipush 7, 2) := by decide +kernel
theorem d_M_quotient_63 : decode c_M_quotient 63 = .ok (.ldc2_w 54, 3) := by decide +kernel
theorem d_M_quotient_66 : decode c_M_quotient 66 = .ok (.aload_n 0, 1) := by decide +kernel
theorem d_M_quotient_67 : decode c_M_quotient 67 = .ok (.iload_n 2, 1) := by decide +kernel
theorem d_M_quotient_68 : decode c_M_quotient 68 = .ok (.iload 7, 2) := by decide +kernel
theorem d_M_quotient_70 : decode c_M_quotient 70 = .ok (.invokevirtual 34, 3) := by decide +kernel
theorem d_M_quotient_73 : decode c_M_quotient 73 = .ok (.i2l, 1) := by decide +kernel
theorem d_M_quotient_74 : decode c_M_quotient 74 = .ok (.invokevirtual 60, 3) := by decide +kernel
theorem d_M_quotient_77 : decode c_M_quotient 77 = .ok (.aload_n 0, 1) := by decide +kernel
theorem d_M_quotient_78 : decode c_M_quotient 78 = .ok (.bipush 7, 2) := by decide +kernel
theorem d_M_quotient_80 : decode c_M_quotient 80 = .ok (.iload 4, 2) := by decide +kernel
theorem d_M_quotient_82 : decode c_M_quotient 82 = .ok (.iconst 1, 1) := by decide +kernel
theorem d_M_quotient_83 : decode c_M_quotient 83 = .ok (.iadd, 1) := by decide +kernel
theorem d_M_quotient_84 : decode c_M_quotient 84 = .ok (.invokevirtual 56, 3) := by decide +kernel
theorem d_M_quotient_87 : decode c_M_quotient 87 = .ok (.lload 5, 2) := by decide +kernel
theorem d_M_quotient_89 : decode c_M_quotient 89 = .ok (.ldiv, 1) := by decide +kernel
theorem d_M_quotient_90 : decode c_M_quotient 90 = .ok (.lstore 8, 2) := by decide +kernel
theorem d_M_quotient_92 : decode c_M_quotient 92 = .ok (.lload 8, 2) := by decide +kernel
theorem d_M_quotient_94 : decode c_M_quotient 94 = .ok (.ldc2_w 32, 3) := by decide +kernel
theorem d_M_quotient_97 : decode c_M_quotient 97 = .ok (.lcmp, 1) := by decide +kernel
theorem d_M_quotient_98 : decode c_M_quotient 98 = .ok (.ifCond .le 9, 3) := by decide +kernel
theorem d_M_quotient_101 : decode c_M_quotient 101 = .ok (.ldc2_w 32, 3) := by decide +kernel
theorem d_M_quotient_104 : decode c_M_quotient 104 = .ok (.goto 5, 3) := by decide +kernel
theorem d_M_quotient_107 : decode c_M_quotient 107 = .ok (.lload 8, 2) := by decide +kernel
theorem d_M_quotient_109 : decode c_M_quotient 109 = .ok (.lstore 8, 2) := by decide +kernel
theorem d_M_quotient_111 : decode c_M_quotient 111 = .ok (.aload_n 0, 1) := by decide +kernel
theorem d_M_quotient_112 : decode c_M_quotient 112 = .ok (.bipush 7, 2) := by decide +kernel
theorem d_M_quotient_114 : decode c_M_quotient 114 = .ok (.iload_n 3, 1) := by decide +kernel
theorem d_M_quotient_115 : decode c_M_quotient 115 = .ok (.lload 8, 2) := by decide +kernel
theorem d_M_quotient_117 : decode c_M_quotient 117 = .ok (.invokevirtual 64, 3) := by decide +kernel
theorem d_M_quotient_120 : decode c_M_quotient 120 = .ok (.aload_n 0, 1) := by decide +kernel
theorem d_M_quotient_121 : decode c_M_quotient 121 = .ok (.bipush 7, 2) := by decide +kernel
theorem d_M_quotient_123 : decode c_M_quotient 123 = .ok (.iload_n 3, 1) := by decide +kernel
theorem d_M_quotient_124 : decode c_M_quotient 124 = .ok (.invokevirtual 67, 3) := by decide +kernel
theorem d_M_quotient_127 : decode c_M_quotient 127 = .ok (.ifCond .lt 20, 3) := by decide +kernel
theorem d_M_quotient_130 : decode c_M_quotient 130 = .ok (.aload_n 0, 1) := by decide +kernel
theorem d_M_quotient_131 : decode c_M_quotient 131 = .ok (.bipush 7, 2) := by decide +kernel
theorem d_M_quotient_133 : decode c_M_quotient 133 = .ok (.iload_n 3, 1) := by decide +kernel
theorem d_M_quotient_134 : decode c_M_quotient 134 = .ok (.lconst 1, 1) := by decide +kernel
theorem d_M_quotient_135 : decode c_M_quotient 135 = .ok (.invokevirtual 64, 3) := by decide +kernel
theorem d_M_quotient_138 : decode c_M_quotient 138 = .ok (.lload 8, 2) := by decide +kernel
theorem d_M_quotient_140 : decode c_M_quotient 140 = .ok (.lconst 1, 1) := by decide +kernel
theorem d_M_quotient_141 : decode c_M_quotient 141 = .ok (.ladd, 1) := by decide +kernel
theorem d_M_quotient_142 : decode c_M_quotient 142 = .ok (.lstore 8, 2) := by decide +kernel
theorem d_M_quotient_144 : decode c_M_quotient 144 = .ok (.goto (-24), 3) := by decide +kernel
theorem d_M_quotient_147 : decode c_M_quotient 147 = .ok (.aload_n 0, 1) := by decide +kernel
theorem d_M_quotient_148 : decode c_M_quotient 148 = .ok (.getfield 7, 3) := by decide +kernel
theorem d_M_quotient_151 : decode c_M_quotient 151 = .ok (.sipush 2800, 3) := by decide +kernel
theorem d_M_quotient_154 : decode c_M_quotient 154 = .ok (.iload_n 1, 1) := by decide +kernel
theorem d_M_quotient_155 : decode c_M_quotient 155 = .ok (.imul, 1) := by decide +kernel
theorem d_M_quotient_156 : decode c_M_quotient 156 = .ok (.iload 7, 2) := by decide +kernel
theorem d_M_quotient_158 : decode c_M_quotient 158 = .ok (.iadd, 1) := by decide +kernel
theorem d_M_quotient_159 : decode c_M_quotient 159 = .ok (.lload 8, 2) := by decide +kernel
theorem d_M_quotient_161 : decode c_M_quotient 161 = .ok (.l2i, 1) := by decide +kernel
theorem d_M_quotient_162 : decode c_M_quotient 162 = .ok (.iastore, 1) := by decide +kernel
theorem d_M_quotient_163 : decode c_M_quotient 163 = .ok (.iinc 7 (-1), 3) := by decide +kernel
theorem d_M_quotient_166 : decode c_M_quotient 166 = .ok (.goto (-111), 3) := by decide +kernel
theorem d_M_quotient_169 : decode c_M_quotient 169 = .ok (.aload_n 0, 1) := by decide +kernel
theorem d_M_quotient_170 : decode c_M_quotient 170 = .ok (.iload_n 1, 1) := by decide +kernel
theorem d_M_quotient_171 : decode c_M_quotient 171 = .ok (.invokevirtual 38, 3) := by decide +kernel
theorem d_M_quotient_174 : decode c_M_quotient 174 = .ok (.return_, 1) := by decide +kernel
theorem d_M_number_0 : decode c_M_number 0 = .ok (.aload_n 0, 1) := by decide +kernel
theorem d_M_number_1 : decode c_M_number 1 = .ok (.lload_n 1, 1) := by decide +kernel
theorem d_M_number_2 : decode c_M_number 2 = .ok (.lconst 0, 1) := by decide +kernel
theorem d_M_number_3 : decode c_M_number 3 = .ok (.lcmp, 1) := by decide +kernel
theorem d_M_number_4 : decode c_M_number 4 = .ok (.ifCond .lt 10, 3) := by decide +kernel
theorem d_M_number_7 : decode c_M_number 7 = .ok (.iload_n 3, 1) := by decide +kernel
theorem d_M_number_8 : decode c_M_number 8 = .ok (.invokestatic 124, 3) := by decide +kernel
theorem d_M_number_11 : decode c_M_number 11 = .ok (.ifCond .ne 7, 3) := by decide +kernel
theorem d_M_number_14 : decode c_M_number 14 = .ok (.iconst 1, 1) := by decide +kernel
theorem d_M_number_15 : decode c_M_number 15 = .ok (.goto 4, 3) := by decide +kernel
theorem d_M_number_18 : decode c_M_number 18 = .ok (.iconst 0, 1) := by decide +kernel
theorem d_M_number_19 : decode c_M_number 19 = .ok (.iconst 1, 1) := by decide +kernel
theorem d_M_number_20 : decode c_M_number 20 = .ok (.invokevirtual 128, 3) := by decide +kernel
theorem d_M_number_23 : decode c_M_number 23 = .ok (.ifCond .eq 5, 3) := by decide +kernel
theorem d_M_number_26 : decode c_M_number 26 = .ok (.iconst 0, 1) := by decide +kernel
theorem d_M_number_27 : decode c_M_number 27 = .ok (.ireturn, 1) := by decide +kernel
theorem d_M_number_28 : decode c_M_number 28 = .ok (.aload_n 0, 1) := by decide +kernel
theorem d_M_number_29 : decode c_M_number 29 = .ok (.iconst 0, 1) := by decide +kernel
theorem d_M_number_30 : decode c_M_number 30 = .ok (.lload_n 1, 1) := by decide +kernel
theorem d_M_number_31 : decode c_M_number 31 = .ok (.invokevirtual 83, 3) := by decide +kernel
theorem d_M_number_34 : decode c_M_number 34 = .ok (.aload_n 0, 1) := by decide +kernel
theorem d_M_number_35 : decode c_M_number 35 = .ok (.iload_n 3, 1) := by decide +kernel
theorem d_M_number_36 : decode c_M_number 36 = .ok (.invokevirtual 160, 3) := by decide +kernel
theorem d_M_number_39 : decode c_M_number 39 = .ok (.ireturn, 1) := by decide +kernel
theorem d_M_push_0 : decode c_M_push 0 = .ok (.aload_n 0, 1) := by decide +kernel
theorem d_M_push_1 : decode c_M_push 1 = .ok (.iload_n 1, 1) := by decide +kernel
theorem d_M_push_2 : decode c_M_push 2 = .ok (.ifCond .lt 11, 3) := by decide +kernel
theorem d_M_push_5 : decode c_M_push 5 = .ok (.iload_n 1, 1) := by decide +kernel
theorem d_M_push_6 : decode c_M_push 6 = .ok (.aload_n 0, 1) := by decide +kernel
theorem d_M_push_7 : decode c_M_push 7 = .ok (.getfield 16, 3) := by decide +kernel
theorem d_M_push_10 : decode c_M_push 10 = .ok (.if_icmp .lt 7, 3) := by decide +kernel
theorem d_M_push_13 : decode c_M_push 13 = .ok (.iconst 1, 1) := by decide +kernel
theorem d_M_push_14 : decode c_M_push 14 = .ok (.goto 4, 3) := by decide +kernel
theorem d_M_push_17 : decode c_M_push 17 = .ok (.iconst 0, 1) := by decide +kernel
theorem d_M_push_18 : decode c_M_push 18 = .ok (.iconst 1, 1) := by decide +kernel
theorem d_M_push_19 : decode c_M_push 19 = .ok (.invokevirtual 128, 3) := by decide +kernel
theorem d_M_push_22 : decode c_M_push 22 = .ok (.ifCond .eq 5, 3) := by decide +kernel
theorem d_M_push_25 : decode c_M_push 25 = .ok (.iconst 0, 1) := by decide +kernel
theorem d_M_push_26 : decode c_M_push 26 = .ok (.ireturn, 1) := by decide +kernel
theorem d_M_push_27 : decode c_M_push 27 = .ok (.aload_n 0, 1) := by decide +kernel
theorem d_M_push_28 : decode c_M_push 28 = .ok (.iconst 5, 1) := by decide +kernel
theorem d_M_push_29 : decode c_M_push 29 = .ok (.iconst 0, 1) := by decide +kernel
theorem d_M_push_30 : decode c_M_push 30 = .ok (.invokevirtual 70, 3) := by decide +kernel
theorem d_M_push_33 : decode c_M_push 33 = .ok (.aload_n 0, 1) := by decide +kernel
theorem d_M_push_34 : decode c_M_push 34 = .ok (.iconst 5, 1) := by decide +kernel
theorem d_M_push_35 : decode c_M_push 35 = .ok (.aload_n 0, 1) := by decide +kernel
theorem d_M_push_36 : decode c_M_push 36 = .ok (.getfield 16, 3) := by decide +kernel
theorem d_M_push_39 : decode c_M_push 39 = .ok (.i2l, 1) := by decide +kernel
theorem d_M_push_40 : decode c_M_push 40 = .ok (.iload_n 1, 1) := by decide +kernel
theorem d_M_push_41 : decode c_M_push 41 = .ok (.i2l, 1) := by decide +kernel
theorem d_M_push_42 : decode c_M_push 42 = .ok (.invokevirtual 60, 3) := by decide +kernel
theorem d_M_push_45 : decode c_M_push 45 = .ok (.aload_n 0, 1) := by decide +kernel
theorem d_M_push_46 : decode c_M_push 46 = .ok (.iconst 5, 1) := by decide +kernel
theorem d_M_push_47 : decode c_M_push 47 = .ok (.iconst 2, 1) := by decide +kernel
theorem d_M_push_48 : decode c_M_push 48 = .ok (.invokevirtual 172, 3) := by decide +kernel
theorem d_M_push_51 : decode c_M_push 51 = .ok (.ireturn, 1) := by decide +kernel
theorem d_M_become_0 : decode c_M_become 0 = .ok (.aload_n 0, 1) := by decide +kernel
theorem d_M_become_1 : decode c_M_become 1 = .ok (.aload_n 0, 1) := by decide +kernel
theorem d_M_become_2 : decode c_M_become 2 = .ok (.iload_n 1, 1) := by decide +kernel
theorem d_M_become_3 : decode c_M_become 3 = .ok (.invokevirtual 169, 3) := by decide +kernel
theorem d_M_become_6 : decode c_M_become 6 = .ok (.sipush 24000, 3) := by decide +kernel
theorem d_M_become_9 : decode c_M_become 9 = .ok (.if_icmp .le 7, 3) := by decide +kernel
theorem d_M_become_12 : decode c_M_become 12 = .ok (.iconst 1, 1) := by decide +kernel
theorem d_M_become_13 : decode c_M_become 13 = .ok (.goto 4, 3) := by decide +kernel
theorem d_M_become_16 : decode c_M_become 16 = .ok (.iconst 0, 1) := by decide +kernel
theorem d_M_become_17 : decode c_M_become 17 = .ok (.iload_n 2, 1) := by decide +kernel
theorem d_M_become_18 : decode c_M_become 18 = .ok (.invokevirtual 128, 3) := by decide +kernel
theorem d_M_become_21 : decode c_M_become 21 = .ok (.ifCond .eq 5, 3) := by decide +kernel
theorem d_M_become_24 : decode c_M_become 24 = .ok (.iconst 0, 1) := by decide +kernel
theorem d_M_become_25 : decode c_M_become 25 = .ok (.ireturn, 1) := by decide +kernel
theorem d_M_become_26 : decode c_M_become 26 = .ok (.aload_n 0, 1) := by decide +kernel
theorem d_M_become_27 : decode c_M_become 27 = .ok (.iconst 0, 1) := by decide +kernel
theorem d_M_become_28 : decode c_M_become 28 = .ok (.iload_n 1, 1) := by decide +kernel
theorem d_M_become_29 : decode c_M_become 29 = .ok (.invokevirtual 70, 3) := by decide +kernel
theorem d_M_become_32 : decode c_M_become 32 = .ok (.aload_n 0, 1) := by decide +kernel
theorem d_M_become_33 : decode c_M_become 33 = .ok (.aload_n 0, 1) := by decide +kernel
theorem d_M_become_34 : decode c_M_become 34 = .ok (.getfield 16, 3) := by decide +kernel
theorem d_M_become_37 : decode c_M_become 37 = .ok (.invokevirtual 160, 3) := by decide +kernel
theorem d_M_become_40 : decode c_M_become 40 = .ok (.ireturn, 1) := by decide +kernel
theorem d_M_length_0 : decode c_M_length 0 = .ok (.aload_n 0, 1) := by decide +kernel
theorem d_M_length_1 : decode c_M_length 1 = .ok (.getfield 13, 3) := by decide +kernel
theorem d_M_length_4 : decode c_M_length 4 = .ok (.iload_n 1, 1) := by decide +kernel
theorem d_M_length_5 : decode c_M_length 5 = .ok (.iaload, 1) := by decide +kernel
theorem d_M_length_6 : decode c_M_length 6 = .ok (.ifCond .ne 5, 3) := by decide +kernel
theorem d_M_length_9 : decode c_M_length 9 = .ok (.iconst 0, 1) := by decide +kernel
theorem d_M_length_10 : decode c_M_length 10 = .ok (.ireturn, 1) := by decide +kernel
theorem d_M_length_11 : decode c_M_length 11 = .ok (.iconst 0, 1) := by decide +kernel
theorem d_M_length_12 : decode c_M_length 12 = .ok (.istore_n 2, 1) := by decide +kernel
theorem d_M_length_13 : decode c_M_length 13 = .ok (.aload_n 0, 1) := by decide +kernel
theorem d_M_length_14 : decode c_M_length 14 = .ok (.iload_n 1, 1) := by decide +kernel
theorem d_M_length_15 : decode c_M_length 15 = .ok (.aload_n 0, 1) := by decide +kernel
theorem d_M_length_16 : decode c_M_length 16 = .ok (.getfield 13, 3) := by decide +kernel
theorem d_M_length_19 : decode c_M_length 19 = .ok (.iload_n 1, 1) := by decide +kernel
theorem d_M_length_20 : decode c_M_length 20 = .ok (.iaload, 1) := by decide +kernel
theorem d_M_length_21 : decode c_M_length 21 = .ok (.iconst 1, 1) := by decide +kernel
theorem d_M_length_22 : decode c_M_length 22 = .ok (.isub, 1) := by decide +kernel
theorem d_M_length_23 : decode c_M_length 23 = .ok (.invokevirtual 34, 3) := by decide +kernel
theorem d_M_length_26 : decode c_M_length 26 = .ok (.iload_n 2, 1) := by decide +kernel
theorem d_M_length_27 : decode c_M_length 27 = .ok (.ishr, 1) := by decide +kernel
theorem d_M_length_28 : decode c_M_length 28 = .ok (.ifCond .le 9, 3) := by decide +kernel
theorem d_M_length_31 : decode c_M_length 31 = .ok (.iinc 2 1, 3) := by decide +kernel
theorem d_M_length_34 : decode c_M_length 34 = .ok (.goto (-21), 3) := by decide +kernel
theorem d_M_length_37 : decode c_M_length 37 = .ok (.bipush 15, 2) := by decide +kernel
theorem d_M_length_39 : decode c_M_length 39 = .ok (.aload_n 0, 1) := by decide +kernel
theorem d_M_length_40 : decode c_M_length 40 = .ok (.getfield 13, 3) := by decide +kernel
theorem d_M_length_43 : decode c_M_length 43 = .ok (.iload_n 1, 1) := by decide +kernel
theorem d_M_length_44 : decode c_M_length 44 = .ok (.iaload, 1) := by decide +kernel
theorem d_M_length_45 : decode c_M_length 45 = .ok (.iconst 1, 1) := by decide +kernel
theorem d_M_length_46 : decode c_M_length 46 = .ok (.isub, 1) := by decide +kernel
theorem d_M_length_47 : decode c_M_length 47 = .ok (.imul, 1) := by decide +kernel
theorem d_M_length_48 : decode c_M_length 48 = .ok (.iload_n 2, 1) := by decide +kernel
theorem d_M_length_49 : decode c_M_length 49 = .ok (.iadd, 1) := by decide +kernel
theorem d_M_length_50 : decode c_M_length 50 = .ok (.ireturn, 1) := by decide +kernel
theorem d_M_keep_0 : decode c_M_keep 0 = .ok (.aload_n 0, 1) := by decide +kernel
theorem d_M_keep_1 : decode c_M_keep 1 = .ok (.iconst 0, 1) := by decide +kernel
theorem d_M_keep_2 : decode c_M_keep 2 = .ok (.putfield 29, 3) := by decide +kernel
theorem d_M_keep_5 : decode c_M_keep 5 = .ok (.aload_n 0, 1) := by decide +kernel
theorem d_M_keep_6 : decode c_M_keep 6 = .ok (.iconst 1, 1) := by decide +kernel
theorem d_M_keep_7 : decode c_M_keep 7 = .ok (.iconst 0, 1) := by decide +kernel
theorem d_M_keep_8 : decode c_M_keep 8 = .ok (.invokevirtual 70, 3) := by decide +kernel
theorem d_M_keep_11 : decode c_M_keep 11 = .ok (.aload_n 0, 1) := by decide +kernel
theorem d_M_keep_12 : decode c_M_keep 12 = .ok (.aload_n 0, 1) := by decide +kernel
theorem d_M_keep_13 : decode c_M_keep 13 = .ok (.getfield 16, 3) := by decide +kernel
theorem d_M_keep_16 : decode c_M_keep 16 = .ok (.putfield 20, 3) := by decide +kernel
theorem d_M_keep_19 : decode c_M_keep 19 = .ok (.return_, 1) := by decide +kernel
theorem d_M_swap_0 : decode c_M_swap 0 = .ok (.aload_n 0, 1) := by decide +kernel
theorem d_M_swap_1 : decode c_M_swap 1 = .ok (.iconst 0, 1) := by decide +kernel
theorem d_M_swap_2 : decode c_M_swap 2 = .ok (.putfield 29, 3) := by decide +kernel
theorem d_M_swap_5 : decode c_M_swap 5 = .ok (.aload_n 0, 1) := by decide +kernel
theorem d_M_swap_6 : decode c_M_swap 6 = .ok (.iconst 5, 1) := by decide +kernel
theorem d_M_swap_7 : decode c_M_swap 7 = .ok (.iconst 0, 1) := by decide +kernel
theorem d_M_swap_8 : decode c_M_swap 8 = .ok (.invokevirtual 70, 3) := by decide +kernel
theorem d_M_swap_11 : decode c_M_swap 11 = .ok (.aload_n 0, 1) := by decide +kernel
theorem d_M_swap_12 : decode c_M_swap 12 = .ok (.iconst 0, 1) := by decide +kernel
theorem d_M_swap_13 : decode c_M_swap 13 = .ok (.iconst 1, 1) := by decide +kernel
theorem d_M_swap_14 : decode c_M_swap 14 = .ok (.invokevirtual 70, 3) := by decide +kernel
theorem d_M_swap_17 : decode c_M_swap 17 = .ok (.aload_n 0, 1) := by decide +kernel
theorem d_M_swap_18 : decode c_M_swap 18 = .ok (.iconst 1, 1) := by decide +kernel
theorem d_M_swap_19 : decode c_M_swap 19 = .ok (.iconst 5, 1) := by decide +kernel
theorem d_M_swap_20 : decode c_M_swap 20 = .ok (.invokevirtual 70, 3) := by decide +kernel
theorem d_M_swap_23 : decode c_M_swap 23 = .ok (.aload_n 0, 1) := by decide +kernel
theorem d_M_swap_24 : decode c_M_swap 24 = .ok (.getfield 16, 3) := by decide +kernel
theorem d_M_swap_27 : decode c_M_swap 27 = .ok (.istore_n 1, 1) := by decide +kernel
theorem d_M_swap_28 : decode c_M_swap 28 = .ok (.aload_n 0, 1) := by decide +kernel
theorem d_M_swap_29 : decode c_M_swap 29 = .ok (.aload_n 0, 1) := by decide +kernel
theorem d_M_swap_30 : decode c_M_swap 30 = .ok (.getfield 20, 3) := by decide +kernel
theorem d_M_swap_33 : decode c_M_swap 33 = .ok (.putfield 16, 3) := by decide +kernel
theorem d_M_swap_36 : decode c_M_swap 36 = .ok (.aload_n 0, 1) := by decide +kernel
theorem d_M_swap_37 : decode c_M_swap 37 = .ok (.iload_n 1, 1) := by decide +kernel
theorem d_M_swap_38 : decode c_M_swap 38 = .ok (.putfield 20, 3) := by decide +kernel
theorem d_M_swap_41 : decode c_M_swap 41 = .ok (.aload_n 0, 1) := by decide +kernel
theorem d_M_swap_42 : decode c_M_swap 42 = .ok (.aload_n 0, 1) := by decide +kernel
theorem d_M_swap_43 : decode c_M_swap 43 = .ok (.getfield 16, 3) := by decide +kernel
theorem d_M_swap_46 : decode c_M_swap 46 = .ok (.invokevirtual 160, 3) := by decide +kernel
theorem d_M_swap_49 : decode c_M_swap 49 = .ok (.ireturn, 1) := by decide +kernel
theorem d_M_add_0 : decode c_M_add 0 = .ok (.aload_n 0, 1) := by decide +kernel
theorem d_M_add_1 : decode c_M_add 1 = .ok (.iconst 5, 1) := by decide +kernel
theorem d_M_add_2 : decode c_M_add 2 = .ok (.iconst 0, 1) := by decide +kernel
theorem d_M_add_3 : decode c_M_add 3 = .ok (.invokevirtual 70, 3) := by decide +kernel
theorem d_M_add_6 : decode c_M_add 6 = .ok (.aload_n 0, 1) := by decide +kernel
theorem d_M_add_7 : decode c_M_add 7 = .ok (.iconst 5, 1) := by decide +kernel
theorem d_M_add_8 : decode c_M_add 8 = .ok (.iconst 1, 1) := by decide +kernel
theorem d_M_add_9 : decode c_M_add 9 = .ok (.lconst 1, 1) := by decide +kernel
theorem d_M_add_10 : decode c_M_add 10 = .ok (.invokevirtual 50, 3) := by decide +kernel
theorem d_M_add_13 : decode c_M_add 13 = .ok (.aload_n 0, 1) := by decide +kernel
theorem d_M_add_14 : decode c_M_add 14 = .ok (.iconst 5, 1) := by decide +kernel
theorem d_M_add_15 : decode c_M_add 15 = .ok (.iconst 1, 1) := by decide +kernel
theorem d_M_add_16 : decode c_M_add 16 = .ok (.invokevirtual 172, 3) := by decide +kernel
theorem d_M_add_19 : decode c_M_add 19 = .ok (.ireturn, 1) := by decide +kernel
theorem d_M_subtract_0 : decode c_M_subtract 0 = .ok (.aload_n 0, 1) := by decide +kernel
theorem d_M_subtract_1 : decode c_M_subtract 1 = .ok (.aload_n 0, 1) := by decide +kernel
theorem d_M_subtract_2 : decode c_M_subtract 2 = .ok (.iconst 0, 1) := by decide +kernel
theorem d_M_subtract_3 : decode c_M_subtract 3 = .ok (.iconst 1, 1) := by decide +kernel
theorem d_M_subtract_4 : decode c_M_subtract 4 = .ok (.invokevirtual 67, 3) := by decide +kernel
theorem d_M_subtract_7 : decode c_M_subtract 7 = .ok (.ifCond .ge 7, 3) := by decide +kernel
theorem d_M_subtract_10 : decode c_M_subtract 10 = .ok (.iconst 1, 1) := by decide +kernel
theorem d_M_subtract_11 : decode c_M_subtract 11 = .ok (.goto 4, 3) := by decide +kernel
theorem d_M_subtract_14 : decode c_M_subtract 14 = .ok (.iconst 0, 1) := by decide +kernel
theorem d_M_subtract_15 : decode c_M_subtract 15 = .ok (.iconst 1, 1) := by decide +kernel
theorem d_M_subtract_16 : decode c_M_subtract 16 = .ok (.invokevirtual 128, 3) := by decide +kernel
theorem d_M_subtract_19 : decode c_M_subtract 19 = .ok (.ifCond .eq 5, 3) := by decide +kernel
theorem d_M_subtract_22 : decode c_M_subtract 22 = .ok (.iconst 0, 1) := by decide +kernel
theorem d_M_subtract_23 : decode c_M_subtract 23 = .ok (.ireturn, 1) := by decide +kernel
theorem d_M_subtract_24 : decode c_M_subtract 24 = .ok (.aload_n 0, 1) := by decide +kernel
theorem d_M_subtract_25 : decode c_M_subtract 25 = .ok (.iconst 0, 1) := by decide +kernel
theorem d_M_subtract_26 : decode c_M_subtract 26 = .ok (.iconst 1, 1) := by decide +kernel
theorem d_M_subtract_27 : decode c_M_subtract 27 = .ok (.lconst 1, 1) := by decide +kernel
theorem d_M_subtract_28 : decode c_M_subtract 28 = .ok (.invokevirtual 64, 3) := by decide +kernel
theorem d_M_subtract_31 : decode c_M_subtract 31 = .ok (.aload_n 0, 1) := by decide +kernel
theorem d_M_subtract_32 : decode c_M_subtract 32 = .ok (.aload_n 0, 1) := by decide +kernel
theorem d_M_subtract_33 : decode c_M_subtract 33 = .ok (.getfield 16, 3) := by decide +kernel
theorem d_M_subtract_36 : decode c_M_subtract 36 = .ok (.invokevirtual 160, 3) := by decide +kernel
theorem d_M_subtract_39 : decode c_M_subtract 39 = .ok (.ireturn, 1) := by decide +kernel
theorem d_M_times_0 : decode c_M_times 0 = .ok (.aload_n 0, 1) := by decide +kernel
theorem d_M_times_1 : decode c_M_times 1 = .ok (.aload_n 0, 1) := by decide +kernel
theorem d_M_times_2 : decode c_M_times 2 = .ok (.iconst 0, 1) := by decide +kernel
theorem d_M_times_3 : decode c_M_times 3 = .ok (.invokevirtual 169, 3) := by decide +kernel
theorem d_M_times_6 : decode c_M_times 6 = .ok (.aload_n 0, 1) := by decide +kernel
theorem d_M_times_7 : decode c_M_times 7 = .ok (.iconst 1, 1) := by decide +kernel
theorem d_M_times_8 : decode c_M_times 8 = .ok (.invokevirtual 169, 3) := by decide +kernel
theorem d_M_times_11 : decode c_M_times 11 = .ok (.iadd, 1) := by decide +kernel
theorem d_M_times_12 : decode c_M_times 12 = .ok (.iconst 1, 1) := by decide +kernel
theorem d_M_times_13 : decode c_M_times 13 = .ok (.isub, 1) := by decide +kernel
theorem d_M_times_14 : decode c_M_times 14 = .ok (.sipush 24000, 3) := by decide +kernel
theorem d_M_times_17 : decode c_M_times 17 = .ok (.if_icmp .le 7, 3) := by decide +kernel
theorem d_M_times_20 : decode c_M_times 20 = .ok (.iconst 1, 1) := by decide +kernel
theorem d_M_times_21 : decode c_M_times 21 = .ok (.goto 4, 3) := by decide +kernel
theorem d_M_times_24 : decode c_M_times 24 = .ok (.iconst 0, 1) := by decide +kernel
theorem d_M_times_25 : decode c_M_times 25 = .ok (.iconst 1, 1) := by decide +kernel
theorem d_M_times_26 : decode c_M_times 26 = .ok (.invokevirtual 128, 3) := by decide +kernel
theorem d_M_times_29 : decode c_M_times 29 = .ok (.ifCond .eq 5, 3) := by decide +kernel
theorem d_M_times_32 : decode c_M_times 32 = .ok (.iconst 0, 1) := by decide +kernel
theorem d_M_times_33 : decode c_M_times 33 = .ok (.ireturn, 1) := by decide +kernel
theorem d_M_times_34 : decode c_M_times 34 = .ok (.aload_n 0, 1) := by decide +kernel
theorem d_M_times_35 : decode c_M_times 35 = .ok (.iconst 5, 1) := by decide +kernel
theorem d_M_times_36 : decode c_M_times 36 = .ok (.iconst 0, 1) := by decide +kernel
theorem d_M_times_37 : decode c_M_times 37 = .ok (.iconst 1, 1) := by decide +kernel
theorem d_M_times_38 : decode c_M_times 38 = .ok (.invokevirtual 163, 3) := by decide +kernel
theorem d_M_times_41 : decode c_M_times 41 = .ok (.aload_n 0, 1) := by decide +kernel
theorem d_M_times_42 : decode c_M_times 42 = .ok (.iconst 5, 1) := by decide +kernel
theorem d_M_times_43 : decode c_M_times 43 = .ok (.iconst 1, 1) := by decide +kernel
theorem d_M_times_44 : decode c_M_times 44 = .ok (.invokevirtual 172, 3) := by decide +kernel
theorem d_M_times_47 : decode c_M_times 47 = .ok (.ireturn, 1) := by decide +kernel
theorem d_M_divide_0 : decode c_M_divide 0 = .ok (.aload_n 0, 1) := by decide +kernel
theorem d_M_divide_1 : decode c_M_divide 1 = .ok (.aload_n 0, 1) := by decide +kernel
theorem d_M_divide_2 : decode c_M_divide 2 = .ok (.getfield 13, 3) := by decide +kernel
theorem d_M_divide_5 : decode c_M_divide 5 = .ok (.iconst 1, 1) := by decide +kernel
theorem d_M_divide_6 : decode c_M_divide 6 = .ok (.iaload, 1) := by decide +kernel
theorem d_M_divide_7 : decode c_M_divide 7 = .ok (.ifCond .ne 7, 3) := by decide +kernel
theorem d_M_divide_10 : decode c_M_divide 10 = .ok (.iconst 1, 1) := by decide +kernel
theorem d_M_divide_11 : decode c_M_divide 11 = .ok (.goto 4, 3) := by decide +kernel
theorem d_M_divide_14 : decode c_M_divide 14 = .ok (.iconst 0, 1) := by decide +kernel
theorem d_M_divide_15 : decode c_M_divide 15 = .ok (.iconst 1, 1) := by decide +kernel
theorem d_M_divide_16 : decode c_M_divide 16 = .ok (.invokevirtual 128, 3) := by decide +kernel
theorem d_M_divide_19 : decode c_M_divide 19 = .ok (.ifCond .eq 5, 3) := by decide +kernel
theorem d_M_divide_22 : decode c_M_divide 22 = .ok (.iconst 0, 1) := by decide +kernel
theorem d_M_divide_23 : decode c_M_divide 23 = .ok (.ireturn, 1) := by decide +kernel
theorem d_M_divide_24 : decode c_M_divide 24 = .ok (.aload_n 0, 1) := by decide +kernel
theorem d_M_divide_25 : decode c_M_divide 25 = .ok (.iconst 5, 1) := by decide +kernel
theorem d_M_divide_26 : decode c_M_divide 26 = .ok (.iconst 0, 1) := by decide +kernel
theorem d_M_divide_27 : decode c_M_divide 27 = .ok (.iconst 1, 1) := by decide +kernel
theorem d_M_divide_28 : decode c_M_divide 28 = .ok (.invokevirtual 166, 3) := by decide +kernel
theorem d_M_divide_31 : decode c_M_divide 31 = .ok (.aload_n 0, 1) := by decide +kernel
theorem d_M_divide_32 : decode c_M_divide 32 = .ok (.iconst 0, 1) := by decide +kernel
theorem d_M_divide_33 : decode c_M_divide 33 = .ok (.iconst 5, 1) := by decide +kernel
theorem d_M_divide_34 : decode c_M_divide 34 = .ok (.invokevirtual 70, 3) := by decide +kernel
theorem d_M_divide_37 : decode c_M_divide 37 = .ok (.aload_n 0, 1) := by decide +kernel
theorem d_M_divide_38 : decode c_M_divide 38 = .ok (.iconst 1, 1) := by decide +kernel
theorem d_M_divide_39 : decode c_M_divide 39 = .ok (.bipush 7, 2) := by decide +kernel
theorem d_M_divide_41 : decode c_M_divide 41 = .ok (.invokevirtual 70, 3) := by decide +kernel
theorem d_M_divide_44 : decode c_M_divide 44 = .ok (.aload_n 0, 1) := by decide +kernel
theorem d_M_divide_45 : decode c_M_divide 45 = .ok (.aload_n 0, 1) := by decide +kernel
theorem d_M_divide_46 : decode c_M_divide 46 = .ok (.getfield 16, 3) := by decide +kernel
theorem d_M_divide_49 : decode c_M_divide 49 = .ok (.invokevirtual 160, 3) := by decide +kernel
theorem d_M_divide_52 : decode c_M_divide 52 = .ok (.ireturn, 1) := by decide +kernel
theorem d_M_rooted_0 : decode c_M_rooted 0 = .ok (.aload_n 0, 1) := by decide +kernel
theorem d_M_rooted_1 : decode c_M_rooted 1 = .ok (.iconst 0, 1) := by decide +kernel
theorem d_M_rooted_2 : decode c_M_rooted 2 = .ok (.putfield 29, 3) := by decide +kernel
theorem d_M_rooted_5 : decode c_M_rooted 5 = .ok (.aload_n 0, 1) := by decide +kernel
theorem d_M_rooted_6 : decode c_M_rooted 6 = .ok (.iconst 5, 1) := by decide +kernel
theorem d_M_rooted_7 : decode c_M_rooted 7 = .ok (.iconst 0, 1) := by decide +kernel
theorem d_M_rooted_8 : decode c_M_rooted 8 = .ok (.invokevirtual 121, 3) := by decide +kernel
theorem d_M_rooted_11 : decode c_M_rooted 11 = .ok (.aload_n 0, 1) := by decide +kernel
theorem d_M_rooted_12 : decode c_M_rooted 12 = .ok (.iconst 0, 1) := by decide +kernel
theorem d_M_rooted_13 : decode c_M_rooted 13 = .ok (.iconst 5, 1) := by decide +kernel
theorem d_M_rooted_14 : decode c_M_rooted 14 = .ok (.invokevirtual 70, 3) := by decide +kernel
theorem d_M_rooted_17 : decode c_M_rooted 17 = .ok (.aload_n 0, 1) := by decide +kernel
theorem d_M_rooted_18 : decode c_M_rooted 18 = .ok (.aload_n 0, 1) := by decide +kernel
theorem d_M_rooted_19 : decode c_M_rooted 19 = .ok (.getfield 16, 3) := by decide +kernel
theorem d_M_rooted_22 : decode c_M_rooted 22 = .ok (.invokevirtual 160, 3) := by decide +kernel
theorem d_M_rooted_25 : decode c_M_rooted 25 = .ok (.ireturn, 1) := by decide +kernel
theorem d_M_convert_0 : decode c_M_convert 0 = .ok (.aload_n 0, 1) := by decide +kernel
theorem d_M_convert_1 : decode c_M_convert 1 = .ok (.iload_n 1, 1) := by decide +kernel
theorem d_M_convert_2 : decode c_M_convert 2 = .ok (.invokestatic 124, 3) := by decide +kernel
theorem d_M_convert_5 : decode c_M_convert 5 = .ok (.ifCond .ne 7, 3) := by decide +kernel
theorem d_M_convert_8 : decode c_M_convert 8 = .ok (.iconst 1, 1) := by decide +kernel
theorem d_M_convert_9 : decode c_M_convert 9 = .ok (.goto 4, 3) := by decide +kernel
theorem d_M_convert_12 : decode c_M_convert 12 = .ok (.iconst 0, 1) := by decide +kernel
theorem d_M_convert_13 : decode c_M_convert 13 = .ok (.iconst 1, 1) := by decide +kernel
theorem d_M_convert_14 : decode c_M_convert 14 = .ok (.invokevirtual 128, 3) := by decide +kernel
theorem d_M_convert_17 : decode c_M_convert 17 = .ok (.ifCond .eq 5, 3) := by decide +kernel
theorem d_M_convert_20 : decode c_M_convert 20 = .ok (.iconst 0, 1) := by decide +kernel
theorem d_M_convert_21 : decode c_M_convert 21 = .ok (.ireturn, 1) := by decide +kernel
theorem d_M_convert_22 : decode c_M_convert 22 = .ok (.aload_n 0, 1) := by decide +kernel
theorem d_M_convert_23 : decode c_M_convert 23 = .ok (.iload_n 1, 1) := by decide +kernel
theorem d_M_convert_24 : decode c_M_convert 24 = .ok (.invokevirtual 160, 3) := by decide +kernel
theorem d_M_convert_27 : decode c_M_convert 27 = .ok (.ireturn, 1) := by decide +kernel
theorem d_M_digit_0 : decode c_M_digit 0 = .ok (.aload_n 0, 1) := by decide +kernel
theorem d_M_digit_1 : decode c_M_digit 1 = .ok (.iload_n 1, 1) := by decide +kernel
theorem d_M_digit_2 : decode c_M_digit 2 = .ok (.ifCond .lt 11, 3) := by decide +kernel
theorem d_M_digit_5 : decode c_M_digit 5 = .ok (.iload_n 1, 1) := by decide +kernel
theorem d_M_digit_6 : decode c_M_digit 6 = .ok (.aload_n 0, 1) := by decide +kernel
theorem d_M_digit_7 : decode c_M_digit 7 = .ok (.invokevirtual 140, 3) := by decide +kernel
theorem d_M_digit_10 : decode c_M_digit 10 = .ok (.if_icmp .lt 7, 3) := by decide +kernel
theorem d_M_digit_13 : decode c_M_digit 13 = .ok (.iconst 1, 1) := by decide +kernel
theorem d_M_digit_14 : decode c_M_digit 14 = .ok (.goto 4, 3) := by decide +kernel
theorem d_M_digit_17 : decode c_M_digit 17 = .ok (.iconst 0, 1) := by decide +kernel
theorem d_M_digit_18 : decode c_M_digit 18 = .ok (.iconst 1, 1) := by decide +kernel
theorem d_M_digit_19 : decode c_M_digit 19 = .ok (.invokevirtual 128, 3) := by decide +kernel
theorem d_M_digit_22 : decode c_M_digit 22 = .ok (.ifCond .eq 5, 3) := by decide +kernel
theorem d_M_digit_25 : decode c_M_digit 25 = .ok (.iconst 0, 1) := by decide +kernel
theorem d_M_digit_26 : decode c_M_digit 26 = .ok (.ireturn, 1) := by decide +kernel
theorem d_M_digit_27 : decode c_M_digit 27 = .ok (.aload_n 0, 1) := by decide +kernel
theorem d_M_digit_28 : decode c_M_digit 28 = .ok (.getfield 23, 3) := by decide +kernel
theorem d_M_digit_31 : decode c_M_digit 31 = .ok (.iload_n 1, 1) := by decide +kernel
theorem d_M_digit_32 : decode c_M_digit 32 = .ok (.iaload, 1) := by decide +kernel
theorem d_M_digit_33 : decode c_M_digit 33 = .ok (.ireturn, 1) := by decide +kernel
theorem d_M_about_0 : decode c_M_about 0 = .ok (.aload_n 0, 1) := by decide +kernel
theorem d_M_about_1 : decode c_M_about 1 = .ok (.iload_n 1, 1) := by decide +kernel
theorem d_M_about_2 : decode c_M_about 2 = .ok (.ifCond .lt 8, 3) := by decide +kernel
theorem d_M_about_5 : decode c_M_about 5 = .ok (.iload_n 1, 1) := by decide +kernel
theorem d_M_about_6 : decode c_M_about 6 = .ok (.iconst 3, 1) := by decide +kernel
theorem d_M_about_7 : decode c_M_about 7 = .ok (.if_icmp .le 7, 3) := by decide +kernel
theorem d_M_about_10 : decode c_M_about 10 = .ok (.iconst 1, 1) := by decide +kernel
theorem d_M_about_11 : decode c_M_about 11 = .ok (.goto 4, 3) := by decide +kernel
theorem d_M_about_14 : decode c_M_about 14 = .ok (.iconst 0, 1) := by decide +kernel
theorem d_M_about_15 : decode c_M_about 15 = .ok (.iconst 1, 1) := by decide +kernel
theorem d_M_about_16 : decode c_M_about 16 = .ok (.invokevirtual 128, 3) := by decide +kernel
theorem d_M_about_19 : decode c_M_about 19 = .ok (.ifCond .eq 5, 3) := by decide +kernel
theorem d_M_about_22 : decode c_M_about 22 = .ok (.iconst 0, 1) := by decide +kernel
theorem d_M_about_23 : decode c_M_about 23 = .ok (.ireturn, 1) := by decide +kernel
theorem d_M_about_24 : decode c_M_about 24 = .ok (.iload_n 1, 1) := by decide +kernel
theorem d_M_about_25 : decode c_M_about 25 = .ok (.iconst 1, 1) := by decide +kernel
theorem d_M_about_26 : decode c_M_about 26 = .ok (.if_icmp .ne 9, 3) := by decide +kernel
theorem d_M_about_29 : decode c_M_about 29 = .ok (.aload_n 0, 1) := by decide +kernel
theorem d_M_about_30 : decode c_M_about 30 = .ok (.iconst 0, 1) := by decide +kernel
theorem d_M_about_31 : decode c_M_about 31 = .ok (.invokevirtual 169, 3) := by decide +kernel
theorem d_M_about_34 : decode c_M_about 34 = .ok (.ireturn, 1) := by decide +kernel
theorem d_M_about_35 : decode c_M_about 35 = .ok (.iload_n 1, 1) := by decide +kernel
theorem d_M_about_36 : decode c_M_about 36 = .ok (.iconst 2, 1) := by decide +kernel
theorem d_M_about_37 : decode c_M_about 37 = .ok (.if_icmp .ne 8, 3) := by decide +kernel
theorem d_M_about_40 : decode c_M_about 40 = .ok (.aload_n 0, 1) := by decide +kernel
theorem d_M_about_41 : decode c_M_about 41 = .ok (.getfield 16, 3) := by decide +kernel
theorem d_M_about_44 : decode c_M_about 44 = .ok (.ireturn, 1) := by decide +kernel
theorem d_M_about_45 : decode c_M_about 45 = .ok (.iconst 0, 1) := by decide +kernel
theorem d_M_about_46 : decode c_M_about 46 = .ok (.istore_n 2, 1) := by decide +kernel
theorem d_M_about_47 : decode c_M_about 47 = .ok (.iconst 0, 1) := by decide +kernel
theorem d_M_about_48 : decode c_M_about 48 = .ok (.istore_n 3, 1) := by decide +kernel
theorem d_M_about_49 : decode c_M_about 49 = .ok (.iload_n 3, 1) := by decide +kernel
theorem d_M_about_50 : decode c_M_about 50 = .ok (.aload_n 0, 1) := by decide +kernel
theorem d_M_about_51 : decode c_M_about 51 = .ok (.invokevirtual 140, 3) := by decide +kernel
theorem d_M_about_54 : decode c_M_about 54 = .ok (.if_icmp .ge 18, 3) := by decide +kernel
theorem d_M_about_57 : decode c_M_about 57 = .ok (.iload_n 2, 1) := by decide +kernel
theorem d_M_about_58 : decode c_M_about 58 = .ok (.aload_n 0, 1) := by decide +kernel
theorem d_M_about_59 : decode c_M_about 59 = .ok (.getfield 23, 3) := by decide +kernel
theorem d_M_about_62 : decode c_M_about 62 = .ok (.iload_n 3, 1) := by decide +kernel
theorem d_M_about_63 : decode c_M_about 63 = .ok (.iaload, 1) := by decide +kernel
theorem d_M_about_64 : decode c_M_about 64 = .ok (.iadd, 1) := by decide +kernel
theorem d_M_about_65 : decode c_M_about 65 = .ok (.istore_n 2, 1) := by decide +kernel
theorem d_M_about_66 : decode c_M_about 66 = .ok (.iinc 3 1, 3) := by decide +kernel
theorem d_M_about_69 : decode c_M_about 69 = .ok (.goto (-20), 3) := by decide +kernel
theorem d_M_about_72 : decode c_M_about 72 = .ok (.iload_n 1, 1) := by decide +kernel
theorem d_M_about_73 : decode c_M_about 73 = .ok (.ifCond .ne 10, 3) := by decide +kernel
theorem d_M_about_76 : decode c_M_about 76 = .ok (.aload_n 0, 1) := by decide +kernel
theorem d_M_about_77 : decode c_M_about 77 = .ok (.getfield 146, 3) := by decide +kernel
theorem d_M_about_80 : decode c_M_about 80 = .ok (.goto 4, 3) := by decide +kernel
theorem d_M_about_83 : decode c_M_about 83 = .ok (.iload_n 2, 1) := by decide +kernel
theorem d_M_about_84 : decode c_M_about 84 = .ok (.ireturn, 1) := by decide +kernel
theorem d_M_count_0 : decode c_M_count 0 = .ok (.aload_n 0, 1) := by decide +kernel
theorem d_M_count_1 : decode c_M_count 1 = .ok (.iload_n 2, 1) := by decide +kernel
theorem d_M_count_2 : decode c_M_count 2 = .ok (.ifCond .lt 11, 3) := by decide +kernel
theorem d_M_count_5 : decode c_M_count 5 = .ok (.iload_n 3, 1) := by decide +kernel
theorem d_M_count_6 : decode c_M_count 6 = .ok (.aload_n 0, 1) := by decide +kernel
theorem d_M_count_7 : decode c_M_count 7 = .ok (.invokevirtual 140, 3) := by decide +kernel
theorem d_M_count_10 : decode c_M_count 10 = .ok (.if_icmp .lt 7, 3) := by decide +kernel
theorem d_M_count_13 : decode c_M_count 13 = .ok (.iconst 1, 1) := by decide +kernel
theorem d_M_count_14 : decode c_M_count 14 = .ok (.goto 4, 3) := by decide +kernel
theorem d_M_count_17 : decode c_M_count 17 = .ok (.iconst 0, 1) := by decide +kernel
theorem d_M_count_18 : decode c_M_count 18 = .ok (.iconst 1, 1) := by decide +kernel
theorem d_M_count_19 : decode c_M_count 19 = .ok (.invokevirtual 128, 3) := by decide +kernel
theorem d_M_count_22 : decode c_M_count 22 = .ok (.ifCond .eq 5, 3) := by decide +kernel
theorem d_M_count_25 : decode c_M_count 25 = .ok (.iconst 0, 1) := by decide +kernel
theorem d_M_count_26 : decode c_M_count 26 = .ok (.ireturn, 1) := by decide +kernel
theorem d_M_count_27 : decode c_M_count 27 = .ok (.iconst 0, 1) := by decide +kernel
theorem d_M_count_28 : decode c_M_count 28 = .ok (.istore 4, 2) := by decide +kernel
theorem d_M_count_30 : decode c_M_count 30 = .ok (.iload_n 2, 1) := by decide +kernel
theorem d_M_count_31 : decode c_M_count 31 = .ok (.istore 5, 2) := by decide +kernel
theorem d_M_count_33 : decode c_M_count 33 = .ok (.iload 5, 2) := by decide +kernel
theorem d_M_count_35 : decode c_M_count 35 = .ok (.iload_n 3, 1) := by decide +kernel
theorem d_M_count_36 : decode c_M_count 36 = .ok (.if_icmp .gt 30, 3) := by decide +kernel
theorem d_M_count_39 : decode c_M_count 39 = .ok (.iload 4, 2) := by decide +kernel
theorem d_M_count_41 : decode c_M_count 41 = .ok (.aload_n 0, 1) := by decide +kernel
theorem d_M_count_42 : decode c_M_count 42 = .ok (.getfield 23, 3) := by decide +kernel
theorem d_M_count_45 : decode c_M_count 45 = .ok (.iload 5, 2) := by decide +kernel
theorem d_M_count_47 : decode c_M_count 47 = .ok (.iaload, 1) := by decide +kernel
theorem d_M_count_48 : decode c_M_count 48 = .ok (.iload_n 1, 1) := by decide +kernel
theorem d_M_count_49 : decode c_M_count 49 = .ok (.if_icmp .ne 7, 3) := by decide +kernel
theorem d_M_count_52 : decode c_M_count 52 = .ok (.iconst 1, 1) := by decide +kernel
theorem d_M_count_53 : decode c_M_count 53 = .ok (.goto 4, 3) := by decide +kernel
theorem d_M_count_56 : decode c_M_count 56 = .ok (.iconst 0, 1) := by decide +kernel
theorem d_M_count_57 : decode c_M_count 57 = .ok (.iadd, 1) := by decide +kernel
theorem d_M_count_58 : decode c_M_count 58 = .ok (.istore 4, 2) := by decide +kernel
theorem d_M_count_60 : decode c_M_count 60 = .ok (.iinc 5 1, 3) := by decide +kernel
theorem d_M_count_63 : decode c_M_count 63 = .ok (.goto (-30), 3) := by decide +kernel
theorem d_M_count_66 : decode c_M_count 66 = .ok (.iload 4, 2) := by decide +kernel
theorem d_M_count_68 : decode c_M_count 68 = .ok (.ireturn, 1) := by decide +kernel
theorem d_M_find_0 : decode c_M_find 0 = .ok (.iload_n 3, 1) := by decide +kernel
theorem d_M_find_1 : decode c_M_find 1 = .ok (.iconst 1, 1) := by decide +kernel
theorem d_M_find_2 : decode c_M_find 2 = .ok (.if_icmp .lt 20, 3) := by decide +kernel
theorem d_M_find_5 : decode c_M_find 5 = .ok (.iload_n 3, 1) := by decide +kernel
theorem d_M_find_6 : decode c_M_find 6 = .ok (.bipush 12, 2) := by decide +kernel
theorem d_M_find_8 : decode c_M_find 8 = .ok (.if_icmp .gt 14, 3) := by decide +kernel
theorem d_M_find_11 : decode c_M_find 11 = .ok (.lload_n 1, 1) := by decide +kernel
theorem d_M_find_12 : decode c_M_find 12 = .ok (.lconst 0, 1) := by decide +kernel
theorem d_M_find_13 : decode c_M_find 13 = .ok (.lcmp, 1) := by decide +kernel
theorem d_M_find_14 : decode c_M_find 14 = .ok (.ifCond .lt 8, 3) := by decide +kernel
theorem d_M_find_17 : decode c_M_find 17 = .ok (.iload 4, 2) := by decide +kernel
theorem d_M_find_19 : decode c_M_find 19 = .ok (.ifCond .ge 7, 3) := by decide +kernel
theorem d_M_find_22 : decode c_M_find 22 = .ok (.iconst 1, 1) := by decide +kernel
theorem d_M_find_23 : decode c_M_find 23 = .ok (.goto 4, 3) := by decide +kernel
theorem d_M_find_26 : decode c_M_find 26 = .ok (.iconst 0, 1) := by decide +kernel
theorem d_M_find_27 : decode c_M_find 27 = .ok (.istore 5, 2) := by decide +kernel
theorem d_M_find_29 : decode c_M_find 29 = .ok (.iload 5, 2) := by decide +kernel
theorem d_M_find_31 : decode c_M_find 31 = .ok (.ifCond .eq 7, 3) := by decide +kernel
theorem d_M_find_34 : decode c_M_find 34 = .ok (.lconst 0, 1) := by decide +kernel
theorem d_M_find_35 : decode c_M_find 35 = .ok (.goto 4, 3) := by decide +kernel
theorem d_M_find_38 : decode c_M_find 38 = .ok (.lload_n 1, 1) := by decide +kernel
theorem d_M_find_39 : decode c_M_find 39 = .ok (.lstore 6, 2) := by decide +kernel
theorem d_M_find_41 : decode c_M_find 41 = .ok (.iconst 0, 1) := by decide +kernel
theorem d_M_find_42 : decode c_M_find 42 = .ok (.istore 8, 2) := by decide +kernel
theorem d_M_find_44 : decode c_M_find 44 = .ok (.iload 8, 2) := by decide +kernel
theorem d_M_find_46 : decode c_M_find 46 = .ok (.iload_n 3, 1) := by decide +kernel
theorem d_M_find_47 : decode c_M_find 47 = .ok (.if_icmp .ge 44, 3) := by decide +kernel
theorem d_M_find_50 : decode c_M_find 50 = .ok (.iload 5, 2) := by decide +kernel
theorem d_M_find_52 : decode c_M_find 52 = .ok (.ifCond .ne 39, 3) := by decide +kernel
theorem d_M_find_55 : decode c_M_find 55 = .ok (.aload_n 0, 1) := by decide +kernel
theorem d_M_find_56 : decode c_M_find 56 = .ok (.getfield 26, 3) := by decide +kernel
theorem d_M_find_59 : decode c_M_find 59 = .ok (.iload_n 3, 1) := by decide +kernel
theorem d_M_find_60 : decode c_M_find 60 = .ok (.iconst 1, 1) := by decide +kernel
theorem d_M_find_61 : decode c_M_find 61 = .ok (.isub, 1) := by decide +kernel
theorem d_M_find_62 : decode c_M_find 62 = .ok (.iload 8, 2) := by decide +kernel
theorem d_M_find_64 : decode c_M_find 64 = .ok (.isub, 1) := by decide +kernel
theorem d_M_find_65 : decode c_M_find 65 = .ok (.lload 6, 2) := by decide +kernel
theorem d_M_find_67 : decode c_M_find 67 = .ok (.aload_n 0, 1) := by decide +kernel
theorem d_M_find_68 : decode c_M_find 68 = .ok (.getfield 16, 3) := by decide +kernel
theorem d_M_find_71 : decode c_M_find 71 = .ok (.i2l, 1) := by decide +kernel
theorem d_M_find_72 : decode c_M_find 72 = .ok (.lrem, 1) := by decide +kernel
theorem d_M_find_73 : decode c_M_find 73 = .ok (.l2i, 1) := by decide +kernel
theorem d_M_find_74 : decode c_M_find 74 = .ok (.iastore, 1) := by decide +kernel
theorem d_M_find_75 : decode c_M_find 75 = .ok (.lload 6, 2) := by decide +kernel
theorem d_M_find_77 : decode c_M_find 77 = .ok (.aload_n 0, 1) := by decide +kernel
theorem d_M_find_78 : decode c_M_find 78 = .ok (.getfield 16, 3) := by decide +kernel
theorem d_M_find_81 : decode c_M_find 81 = .ok (.i2l, 1) := by decide +kernel
theorem d_M_find_82 : decode c_M_find 82 = .ok (.ldiv, 1) := by decide +kernel
theorem d_M_find_83 : decode c_M_find 83 = .ok (.lstore 6, 2) := by decide +kernel
theorem d_M_find_85 : decode c_M_find 85 = .ok (.iinc 8 1, 3) := by decide +kernel
theorem d_M_find_88 : decode c_M_find 88 = .ok (.goto (-44), 3) := by decide +kernel
theorem d_M_find_91 : decode c_M_find 91 = .ok (.aload_n 0, 1) := by decide +kernel
theorem d_M_find_92 : decode c_M_find 92 = .ok (.iload 5, 2) := by decide +kernel
theorem d_M_find_94 : decode c_M_find 94 = .ok (.ifCond .ne 10, 3) := by decide +kernel
theorem d_M_find_97 : decode c_M_find 97 = .ok (.lload 6, 2) := by decide +kernel
theorem d_M_find_99 : decode c_M_find 99 = .ok (.lconst 0, 1) := by decide +kernel
theorem d_M_find_100 : decode c_M_find 100 = .ok (.lcmp, 1) := by decide +kernel
theorem d_M_find_101 : decode c_M_find 101 = .ok (.ifCond .le 7, 3) := by decide +kernel
theorem d_M_find_104 : decode c_M_find 104 = .ok (.iconst 1, 1) := by decide +kernel
theorem d_M_find_105 : decode c_M_find 105 = .ok (.goto 4, 3) := by decide +kernel
theorem d_M_find_108 : decode c_M_find 108 = .ok (.iconst 0, 1) := by decide +kernel
theorem d_M_find_109 : decode c_M_find 109 = .ok (.iconst 1, 1) := by decide +kernel
theorem d_M_find_110 : decode c_M_find 110 = .ok (.invokevirtual 128, 3) := by decide +kernel
theorem d_M_find_113 : decode c_M_find 113 = .ok (.ifCond .eq 5, 3) := by decide +kernel
theorem d_M_find_116 : decode c_M_find 116 = .ok (.iconst 0, 1) := by decide +kernel
theorem d_M_find_117 : decode c_M_find 117 = .ok (.ireturn, 1) := by decide +kernel
theorem d_M_find_118 : decode c_M_find 118 = .ok (.aload_n 0, 1) := by decide +kernel
theorem d_M_find_119 : decode c_M_find 119 = .ok (.invokevirtual 140, 3) := by decide +kernel
theorem d_M_find_122 : decode c_M_find 122 = .ok (.istore 8, 2) := by decide +kernel
theorem d_M_find_124 : decode c_M_find 124 = .ok (.iload 4, 2) := by decide +kernel
theorem d_M_find_126 : decode c_M_find 126 = .ok (.istore 9, 2) := by decide +kernel
theorem d_M_find_128 : decode c_M_find 128 = .ok (.iload 9, 2) := by decide +kernel
theorem d_M_find_130 : decode c_M_find 130 = .ok (.iload 8, 2) := by decide +kernel
theorem d_M_find_132 : decode c_M_find 132 = .ok (.iload_n 3, 1) := by decide +kernel
theorem d_M_find_133 : decode c_M_find 133 = .ok (.isub, 1) := by decide +kernel
theorem d_M_find_134 : decode c_M_find 134 = .ok (.if_icmp .gt 53, 3) := by decide +kernel
theorem d_M_find_137 : decode c_M_find 137 = .ok (.iconst 0, 1) := by decide +kernel
theorem d_M_find_138 : decode c_M_find 138 = .ok (.istore 10, 2) := by decide +kernel
theorem d_M_find_140 : decode c_M_find 140 = .ok (.iload 10, 2) := by decide +kernel
theorem d_M_find_142 : decode c_M_find 142 = .ok (.iload_n 3, 1) := by decide +kernel
theorem d_M_find_143 : decode c_M_find 143 = .ok (.if_icmp .ge 29, 3) := by decide +kernel
theorem d_M_find_146 : decode c_M_find 146 = .ok (.aload_n 0, 1) := by decide +kernel
theorem d_M_find_147 : decode c_M_find 147 = .ok (.getfield 23, 3) := by decide +kernel
theorem d_M_find_150 : decode c_M_find 150 = .ok (.iload 9, 2) := by decide +kernel
theorem d_M_find_152 : decode c_M_find 152 = .ok (.iload 10, 2) := by decide +kernel
theorem d_M_find_154 : decode c_M_find 154 = .ok (.iadd, 1) := by decide +kernel
theorem d_M_find_155 : decode c_M_find 155 = .ok (.iaload, 1) := by decide +kernel
theorem d_M_find_156 : decode c_M_find 156 = .ok (.aload_n 0, 1) := by decide +kernel
theorem d_M_find_157 : decode c_M_find 157 = .ok (.getfield 26, 3) := by decide +kernel
theorem d_M_find_160 : decode c_M_find 160 = .ok (.iload 10, 2) := by decide +kernel
theorem d_M_find_162 : decode c_M_find 162 = .ok (.iaload, 1) := by decide +kernel
theorem d_M_find_163 : decode c_M_find 163 = .ok (.if_icmp .ne 9, 3) := by decide +kernel
theorem d_M_find_166 : decode c_M_find 166 = .ok (.iinc 10 1, 3) := by decide +kernel
theorem d_M_find_169 : decode c_M_find 169 = .ok (.goto (-29), 3) := by decide +kernel
theorem d_M_find_172 : decode c_M_find 172 = .ok (.iload 10, 2) := by decide +kernel
theorem d_M_find_174 : decode c_M_find 174 = .ok (.iload_n 3, 1) := by decide +kernel
theorem d_M_find_175 : decode c_M_find 175 = .ok (.if_icmp .ne 6, 3) := by decide +kernel
theorem d_M_find_178 : decode c_M_find 178 = .ok (.iload 9, 2) := by decide +kernel
theorem d_M_find_180 : decode c_M_find 180 = .ok (.ireturn, 1) := by decide +kernel
theorem d_M_find_181 : decode c_M_find 181 = .ok (.iinc 9 1, 3) := by decide +kernel
theorem d_M_find_184 : decode c_M_find 184 = .ok (.goto (-56), 3) := by decide +kernel
theorem d_M_find_187 : decode c_M_find 187 = .ok (.iconst (-1), 1) := by decide +kernel
theorem d_M_find_188 : decode c_M_find 188 = .ok (.ireturn, 1) := by decide +kernel
theorem d_M_compare_0 : decode c_M_compare 0 = .ok (.aload_n 0, 1) := by decide +kernel
theorem d_M_compare_1 : decode c_M_compare 1 = .ok (.iconst 0, 1) := by decide +kernel
theorem d_M_compare_2 : decode c_M_compare 2 = .ok (.putfield 29, 3) := by decide +kernel
theorem d_M_compare_5 : decode c_M_compare 5 = .ok (.aload_n 0, 1) := by decide +kernel
theorem d_M_compare_6 : decode c_M_compare 6 = .ok (.iconst 0, 1) := by decide +kernel
theorem d_M_compare_7 : decode c_M_compare 7 = .ok (.iconst 1, 1) := by decide +kernel
theorem d_M_compare_8 : decode c_M_compare 8 = .ok (.invokevirtual 67, 3) := by decide +kernel
theorem d_M_compare_11 : decode c_M_compare 11 = .ok (.ireturn, 1) := by decide +kernel
