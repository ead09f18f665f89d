theorem d_T_init_0 : decode c_T_init 0 = .ok (.aload_n 0, 1) := by decide +kernel
theorem d_T_init_1 : decode c_T_init 1 = .ok (.invokespecial 3, 3) := by decide +kernel
theorem d_T_init_4 : decode c_T_init 4 = .ok (.aload_n 0, 1) := by decide +kernel
theorem d_T_init_5 : decode c_T_init 5 = .ok (.new 9, 3) := by decide +kernel
theorem d_T_init_8 : decode c_T_init 8 = .ok (.dup, 1) := by decide +kernel
theorem d_T_init_9 : decode c_T_init 9 = .ok (.sipush 800, 3) := by decide +kernel
theorem d_T_init_12 : decode c_T_init 12 = .ok (.invokespecial 11, 3) := by decide +kernel
theorem d_T_init_15 : decode c_T_init 15 = .ok (.putfield 14, 3) := by decide +kernel
theorem d_T_init_18 : decode c_T_init 18 = .ok (.aload_n 0, 1) := by decide +kernel
theorem d_T_init_19 : decode c_T_init 19 = .ok (.bipush 10, 2) := by decide +kernel
theorem d_T_init_21 : decode c_T_init 21 = .ok (.putfield 20, 3) := by decide +kernel
theorem d_T_init_24 : decode c_T_init 24 = .ok (.aload_n 0, 1) := by decide +kernel
theorem d_T_init_25 : decode c_T_init 25 = .ok (.sipush 960, 3) := by decide +kernel
theorem d_T_init_28 : decode c_T_init 28 = .ok (.newarray .int, 2) := by decide +kernel
theorem d_T_init_30 : decode c_T_init 30 = .ok (.putfield 24, 3) := by decide +kernel
theorem d_T_init_33 : decode c_T_init 33 = .ok (.aload_n 0, 1) := by decide +kernel
theorem d_T_init_34 : decode c_T_init 34 = .ok (.bipush 31, 2) := by decide +kernel
theorem d_T_init_36 : decode c_T_init 36 = .ok (.newarray .int, 2) := by decide +kernel
theorem d_T_init_38 : decode c_T_init 38 = .ok (.putfield 28, 3) := by decide +kernel
theorem d_T_init_41 : decode c_T_init 41 = .ok (.aload_n 0, 1) := by decide +kernel
theorem d_T_init_42 : decode c_T_init 42 = .ok (.invokevirtual 31, 3) := by decide +kernel
theorem d_T_init_45 : decode c_T_init 45 = .ok (.aload_n 0, 1) := by decide +kernel
theorem d_T_init_46 : decode c_T_init 46 = .ok (.iconst 1, 1) := by decide +kernel
theorem d_T_init_47 : decode c_T_init 47 = .ok (.putfield 34, 3) := by decide +kernel
theorem d_T_init_50 : decode c_T_init 50 = .ok (.aload_n 0, 1) := by decide +kernel
theorem d_T_init_51 : decode c_T_init 51 = .ok (.iconst 1, 1) := by decide +kernel
theorem d_T_init_52 : decode c_T_init 52 = .ok (.putfield 37, 3) := by decide +kernel
theorem d_T_init_55 : decode c_T_init 55 = .ok (.aload_n 0, 1) := by decide +kernel
theorem d_T_init_56 : decode c_T_init 56 = .ok (.iconst 1, 1) := by decide +kernel
theorem d_T_init_57 : decode c_T_init 57 = .ok (.putfield 40, 3) := by decide +kernel
theorem d_T_init_60 : decode c_T_init 60 = .ok (.return_, 1) := by decide +kernel
theorem d_T_setPowers_0 : decode c_T_setPowers 0 = .ok (.aload_n 0, 1) := by decide +kernel
theorem d_T_setPowers_1 : decode c_T_setPowers 1 = .ok (.aload_n 0, 1) := by decide +kernel
theorem d_T_setPowers_2 : decode c_T_setPowers 2 = .ok (.getfield 20, 3) := by decide +kernel
theorem d_T_setPowers_5 : decode c_T_setPowers 5 = .ok (.invokestatic 80, 3) := by decide +kernel
theorem d_T_setPowers_8 : decode c_T_setPowers 8 = .ok (.putfield 61, 3) := by decide +kernel
theorem d_T_setPowers_11 : decode c_T_setPowers 11 = .ok (.aload_n 0, 1) := by decide +kernel
theorem d_T_setPowers_12 : decode c_T_setPowers 12 = .ok (.getfield 28, 3) := by decide +kernel
theorem d_T_setPowers_15 : decode c_T_setPowers 15 = .ok (.iconst 0, 1) := by decide +kernel
theorem d_T_setPowers_16 : decode c_T_setPowers 16 = .ok (.iconst 1, 1) := by decide +kernel
theorem d_T_setPowers_17 : decode c_T_setPowers 17 = .ok (.iastore, 1) := by decide +kernel
theorem d_T_setPowers_18 : decode c_T_setPowers 18 = .ok (.iconst 1, 1) := by decide +kernel
theorem d_T_setPowers_19 : decode c_T_setPowers 19 = .ok (.istore_n 1, 1) := by decide +kernel
theorem d_T_setPowers_20 : decode c_T_setPowers 20 = .ok (.iload_n 1, 1) := by decide +kernel
theorem d_T_setPowers_21 : decode c_T_setPowers 21 = .ok (.aload_n 0, 1) := by decide +kernel
theorem d_T_setPowers_22 : decode c_T_setPowers 22 = .ok (.getfield 61, 3) := by decide +kernel
theorem d_T_setPowers_25 : decode c_T_setPowers 25 = .ok (.if_icmp .gt 28, 3) := by decide +kernel
theorem d_T_setPowers_28 : decode c_T_setPowers 28 = .ok (.aload_n 0, 1) := by decide +kernel
theorem d_T_setPowers_29 : decode c_T_setPowers 29 = .ok (.getfield 28, 3) := by decide +kernel
theorem d_T_setPowers_32 : decode c_T_setPowers 32 = .ok (.iload_n 1, 1) := by decide +kernel
theorem d_T_setPowers_33 : decode c_T_setPowers 33 = .ok (.aload_n 0, 1) := by decide +kernel
theorem d_T_setPowers_34 : decode c_T_setPowers 34 = .ok (.getfield 28, 3) := by decide +kernel
theorem d_T_setPowers_37 : decode c_T_setPowers 37 = .ok (.iload_n 1, 1) := by decide +kernel
theorem d_T_setPowers_38 : decode c_T_setPowers 38 = .ok (.iconst 1, 1) := by decide +kernel
theorem d_T_setPowers_39 : decode c_T_setPowers 39 = .ok (.isub, 1) := by decide +kernel
theorem d_T_setPowers_40 : decode c_T_setPowers 40 = .ok (.iaload, 1) := by decide +kernel
theorem d_T_setPowers_41 : decode c_T_setPowers 41 = .ok (.aload_n 0, 1) := by decide +kernel
theorem d_T_setPowers_42 : decode c_T_setPowers 42 = .ok (.getfield 20, 3) := by decide +kernel
theorem d_T_setPowers_45 : decode c_T_setPowers 45 = .ok (.imul, 1) := by decide +kernel
theorem d_T_setPowers_46 : decode c_T_setPowers 46 = .ok (.iastore, 1) := by decide +kernel
theorem d_T_setPowers_47 : decode c_T_setPowers 47 = .ok (.iinc 1 1, 3) := by decide +kernel
theorem d_T_setPowers_50 : decode c_T_setPowers 50 = .ok (.goto (-30), 3) := by decide +kernel
theorem d_T_setPowers_53 : decode c_T_setPowers 53 = .ok (.return_, 1) := by decide +kernel
theorem d_B_init_0 : decode c_B_init 0 = .ok (.aload_n 0, 1) := by decide +kernel
theorem d_B_init_1 : decode c_B_init 1 = .ok (.invokespecial 3, 3) := by decide +kernel
theorem d_B_init_4 : decode c_B_init 4 = .ok (.aload_n 0, 1) := by decide +kernel
theorem d_B_init_5 : decode c_B_init 5 = .ok (.new 9, 3) := by decide +kernel
theorem d_B_init_8 : decode c_B_init 8 = .ok (.dup, 1) := by decide +kernel
theorem d_B_init_9 : decode c_B_init 9 = .ok (.sipush 1400, 3) := by decide +kernel
theorem d_B_init_12 : decode c_B_init 12 = .ok (.invokespecial 11, 3) := by decide +kernel
theorem d_B_init_15 : decode c_B_init 15 = .ok (.putfield 14, 3) := by decide +kernel
theorem d_B_init_18 : decode c_B_init 18 = .ok (.aload_n 0, 1) := by decide +kernel
theorem d_B_init_19 : decode c_B_init 19 = .ok (.new 9, 3) := by decide +kernel
theorem d_B_init_22 : decode c_B_init 22 = .ok (.dup, 1) := by decide +kernel
theorem d_B_init_23 : decode c_B_init 23 = .ok (.sipush 1400, 3) := by decide +kernel
theorem d_B_init_26 : decode c_B_init 26 = .ok (.invokespecial 11, 3) := by decide +kernel
theorem d_B_init_29 : decode c_B_init 29 = .ok (.putfield 20, 3) := by decide +kernel
theorem d_B_init_32 : decode c_B_init 32 = .ok (.aload_n 0, 1) := by decide +kernel
theorem d_B_init_33 : decode c_B_init 33 = .ok (.new 9, 3) := by decide +kernel
theorem d_B_init_36 : decode c_B_init 36 = .ok (.dup, 1) := by decide +kernel
theorem d_B_init_37 : decode c_B_init 37 = .ok (.sipush 1400, 3) := by decide +kernel
theorem d_B_init_40 : decode c_B_init 40 = .ok (.invokespecial 11, 3) := by decide +kernel
theorem d_B_init_43 : decode c_B_init 43 = .ok (.putfield 23, 3) := by decide +kernel
theorem d_B_init_46 : decode c_B_init 46 = .ok (.return_, 1) := by decide +kernel
theorem d_T_copyText_0 : decode c_T_copyText 0 = .ok (.aload_n 0, 1) := by decide +kernel
theorem d_T_copyText_1 : decode c_T_copyText 1 = .ok (.aload_n 1, 1) := by decide +kernel
theorem d_T_copyText_2 : decode c_T_copyText 2 = .ok (.getfield 14, 3) := by decide +kernel
theorem d_T_copyText_5 : decode c_T_copyText 5 = .ok (.aload_n 1, 1) := by decide +kernel
theorem d_T_copyText_6 : decode c_T_copyText 6 = .ok (.getfield 20, 3) := by decide +kernel
theorem d_T_copyText_9 : decode c_T_copyText 9 = .ok (.invokevirtual 51, 3) := by decide +kernel
theorem d_T_copyText_12 : decode c_T_copyText 12 = .ok (.aload_n 0, 1) := by decide +kernel
theorem d_T_copyText_13 : decode c_T_copyText 13 = .ok (.aload_n 1, 1) := by decide +kernel
theorem d_T_copyText_14 : decode c_T_copyText 14 = .ok (.getfield 34, 3) := by decide +kernel
theorem d_T_copyText_17 : decode c_T_copyText 17 = .ok (.putfield 34, 3) := by decide +kernel
theorem d_T_copyText_20 : decode c_T_copyText 20 = .ok (.aload_n 1, 1) := by decide +kernel
theorem d_T_copyText_21 : decode c_T_copyText 21 = .ok (.getfield 24, 3) := by decide +kernel
theorem d_T_copyText_24 : decode c_T_copyText 24 = .ok (.iconst 0, 1) := by decide +kernel
theorem d_T_copyText_25 : decode c_T_copyText 25 = .ok (.aload_n 0, 1) := by decide +kernel
theorem d_T_copyText_26 : decode c_T_copyText 26 = .ok (.getfield 24, 3) := by decide +kernel
theorem d_T_copyText_29 : decode c_T_copyText 29 = .ok (.iconst 0, 1) := by decide +kernel
theorem d_T_copyText_30 : decode c_T_copyText 30 = .ok (.aload_n 0, 1) := by decide +kernel
theorem d_T_copyText_31 : decode c_T_copyText 31 = .ok (.getfield 34, 3) := by decide +kernel
theorem d_T_copyText_34 : decode c_T_copyText 34 = .ok (.invokestatic 55, 3) := by decide +kernel
theorem d_T_copyText_37 : decode c_T_copyText 37 = .ok (.aload_n 0, 1) := by decide +kernel
theorem d_T_copyText_38 : decode c_T_copyText 38 = .ok (.aload_n 1, 1) := by decide +kernel
theorem d_T_copyText_39 : decode c_T_copyText 39 = .ok (.getfield 61, 3) := by decide +kernel
theorem d_T_copyText_42 : decode c_T_copyText 42 = .ok (.putfield 61, 3) := by decide +kernel
theorem d_T_copyText_45 : decode c_T_copyText 45 = .ok (.aload_n 1, 1) := by decide +kernel
theorem d_T_copyText_46 : decode c_T_copyText 46 = .ok (.getfield 28, 3) := by decide +kernel
theorem d_T_copyText_49 : decode c_T_copyText 49 = .ok (.iconst 0, 1) := by decide +kernel
theorem d_T_copyText_50 : decode c_T_copyText 50 = .ok (.aload_n 0, 1) := by decide +kernel
theorem d_T_copyText_51 : decode c_T_copyText 51 = .ok (.getfield 28, 3) := by decide +kernel
theorem d_T_copyText_54 : decode c_T_copyText 54 = .ok (.iconst 0, 1) := by decide +kernel
theorem d_T_copyText_55 : decode c_T_copyText 55 = .ok (.aload_n 0, 1) := by decide +kernel
theorem d_T_copyText_56 : decode c_T_copyText 56 = .ok (.getfield 28, 3) := by decide +kernel
theorem d_T_copyText_59 : decode c_T_copyText 59 = .ok (.arraylength, 1) := by decide +kernel
theorem d_T_copyText_60 : decode c_T_copyText 60 = .ok (.invokestatic 55, 3) := by decide +kernel
theorem d_T_copyText_63 : decode c_T_copyText 63 = .ok (.aload_n 0, 1) := by decide +kernel
theorem d_T_copyText_64 : decode c_T_copyText 64 = .ok (.aload_n 1, 1) := by decide +kernel
theorem d_T_copyText_65 : decode c_T_copyText 65 = .ok (.getfield 37, 3) := by decide +kernel
theorem d_T_copyText_68 : decode c_T_copyText 68 = .ok (.putfield 37, 3) := by decide +kernel
theorem d_T_copyText_71 : decode c_T_copyText 71 = .ok (.aload_n 0, 1) := by decide +kernel
theorem d_T_copyText_72 : decode c_T_copyText 72 = .ok (.aload_n 1, 1) := by decide +kernel
theorem d_T_copyText_73 : decode c_T_copyText 73 = .ok (.getfield 40, 3) := by decide +kernel
theorem d_T_copyText_76 : decode c_T_copyText 76 = .ok (.putfield 40, 3) := by decide +kernel
theorem d_T_copyText_79 : decode c_T_copyText 79 = .ok (.return_, 1) := by decide +kernel
theorem d_T_replace_0 : decode c_T_replace 0 = .ok (.aload_n 0, 1) := by decide +kernel
theorem d_T_replace_1 : decode c_T_replace 1 = .ok (.getfield 14, 3) := by decide +kernel
theorem d_T_replace_4 : decode c_T_replace 4 = .ok (.aload_n 1, 1) := by decide +kernel
theorem d_T_replace_5 : decode c_T_replace 5 = .ok (.invokevirtual 44, 3) := by decide +kernel
theorem d_T_replace_8 : decode c_T_replace 8 = .ok (.aload_n 0, 1) := by decide +kernel
theorem d_T_replace_9 : decode c_T_replace 9 = .ok (.iload_n 2, 1) := by decide +kernel
theorem d_T_replace_10 : decode c_T_replace 10 = .ok (.invokevirtual 48, 3) := by decide +kernel
theorem d_T_replace_13 : decode c_T_replace 13 = .ok (.return_, 1) := by decide +kernel
theorem d_T_changeBase_0 : decode c_T_changeBase 0 = .ok (.aload_n 0, 1) := by decide +kernel
theorem d_T_changeBase_1 : decode c_T_changeBase 1 = .ok (.iload_n 1, 1) := by decide +kernel
theorem d_T_changeBase_2 : decode c_T_changeBase 2 = .ok (.putfield 20, 3) := by decide +kernel
theorem d_T_changeBase_5 : decode c_T_changeBase 5 = .ok (.aload_n 0, 1) := by decide +kernel
theorem d_T_changeBase_6 : decode c_T_changeBase 6 = .ok (.iconst 0, 1) := by decide +kernel
theorem d_T_changeBase_7 : decode c_T_changeBase 7 = .ok (.putfield 40, 3) := by decide +kernel
theorem d_T_changeBase_10 : decode c_T_changeBase 10 = .ok (.return_, 1) := by decide +kernel
theorem d_T_tell_0 : decode c_T_tell 0 = .ok (.aload_n 0, 1) := by decide +kernel
theorem d_T_tell_1 : decode c_T_tell 1 = .ok (.getfield 40, 3) := by decide +kernel
theorem d_T_tell_4 : decode c_T_tell 4 = .ok (.ifCond .eq 4, 3) := by decide +kernel
theorem d_T_tell_7 : decode c_T_tell 7 = .ok (.return_, 1) := by decide +kernel
theorem d_T_tell_8 : decode c_T_tell 8 = .ok (.aload_n 0, 1) := by decide +kernel
theorem d_T_tell_9 : decode c_T_tell 9 = .ok (.invokevirtual 31, 3) := by decide +kernel
theorem d_T_tell_12 : decode c_T_tell 12 = .ok (.aload_n 0, 1) := by decide +kernel
theorem d_T_tell_13 : decode c_T_tell 13 = .ok (.getfield 28, 3) := by decide +kernel
theorem d_T_tell_16 : decode c_T_tell 16 = .ok (.aload_n 0, 1) := by decide +kernel
theorem d_T_tell_17 : decode c_T_tell 17 = .ok (.getfield 61, 3) := by decide +kernel
theorem d_T_tell_20 : decode c_T_tell 20 = .ok (.iaload, 1) := by decide +kernel
theorem d_T_tell_21 : decode c_T_tell 21 = .ok (.istore_n 2, 1) := by decide +kernel
theorem d_T_tell_22 : decode c_T_tell 22 = .ok (.aload_n 1, 1) := by decide +kernel
theorem d_T_tell_23 : decode c_T_tell 23 = .ok (.aload_n 0, 1) := by decide +kernel
theorem d_T_tell_24 : decode c_T_tell 24 = .ok (.getfield 14, 3) := by decide +kernel
theorem d_T_tell_27 : decode c_T_tell 27 = .ok (.invokevirtual 44, 3) := by decide +kernel
theorem d_T_tell_30 : decode c_T_tell 30 = .ok (.aload_n 0, 1) := by decide +kernel
theorem d_T_tell_31 : decode c_T_tell 31 = .ok (.getfield 24, 3) := by decide +kernel
theorem d_T_tell_34 : decode c_T_tell 34 = .ok (.iconst 0, 1) := by decide +kernel
theorem d_T_tell_35 : decode c_T_tell 35 = .ok (.iconst 0, 1) := by decide +kernel
theorem d_T_tell_36 : decode c_T_tell 36 = .ok (.iastore, 1) := by decide +kernel
theorem d_T_tell_37 : decode c_T_tell 37 = .ok (.aload_n 0, 1) := by decide +kernel
theorem d_T_tell_38 : decode c_T_tell 38 = .ok (.iconst 0, 1) := by decide +kernel
theorem d_T_tell_39 : decode c_T_tell 39 = .ok (.putfield 34, 3) := by decide +kernel
theorem d_T_tell_42 : decode c_T_tell 42 = .ok (.aload_n 1, 1) := by decide +kernel
theorem d_T_tell_43 : decode c_T_tell 43 = .ok (.getfield 64, 3) := by decide +kernel
theorem d_T_tell_46 : decode c_T_tell 46 = .ok (.ifCond .le 42, 3) := by decide +kernel
theorem d_T_tell_49 : decode c_T_tell 49 = .ok (.aload_n 0, 1) := by decide +kernel
theorem d_T_tell_50 : decode c_T_tell 50 = .ok (.getfield 34, 3) := by decide +kernel
theorem d_T_tell_53 : decode c_T_tell 53 = .ok (.aload_n 0, 1) := by decide +kernel
theorem d_T_tell_54 : decode c_T_tell 54 = .ok (.getfield 24, 3) := by decide +kernel
theorem d_T_tell_57 : decode c_T_tell 57 = .ok (.arraylength, 1) := by decide +kernel
theorem d_T_tell_58 : decode c_T_tell 58 = .ok (.if_icmp .ge 30, 3) := by decide +kernel
theorem d_T_tell_61 : decode c_T_tell 61 = .ok (.aload_n 0, 1) := by decide +kernel
theorem d_T_tell_62 : decode c_T_tell 62 = .ok (.getfield 24, 3) := by decide +kernel
theorem d_T_tell_65 : decode c_T_tell 65 = .ok (.aload_n 0, 1) := by decide +kernel
theorem d_T_tell_66 : decode c_T_tell 66 = .ok (.getfield 34, 3) := by decide +kernel
theorem d_T_tell_69 : decode c_T_tell 69 = .ok (.aload_n 1, 1) := by decide +kernel
theorem d_T_tell_70 : decode c_T_tell 70 = .ok (.iload_n 2, 1) := by decide +kernel
theorem d_T_tell_71 : decode c_T_tell 71 = .ok (.invokevirtual 67, 3) := by decide +kernel
theorem d_T_tell_74 : decode c_T_tell 74 = .ok (.iastore, 1) := by decide +kernel
theorem d_T_tell_75 : decode c_T_tell 75 = .ok (.aload_n 0, 1) := by decide +kernel
theorem d_T_tell_76 : decode c_T_tell 76 = .ok (.dup, 1) := by decide +kernel
theorem d_T_tell_77 : decode c_T_tell 77 = .ok (.getfield 34, 3) := by decide +kernel
theorem d_T_tell_80 : decode c_T_tell 80 = .ok (.iconst 1, 1) := by decide +kernel
theorem d_T_tell_81 : decode c_T_tell 81 = .ok (.iadd, 1) := by decide +kernel
theorem d_T_tell_82 : decode c_T_tell 82 = .ok (.putfield 34, 3) := by decide +kernel
theorem d_T_tell_85 : decode c_T_tell 85 = .ok (.goto (-43), 3) := by decide +kernel
theorem d_T_tell_88 : decode c_T_tell 88 = .ok (.aload_n 0, 1) := by decide +kernel
theorem d_T_tell_89 : decode c_T_tell 89 = .ok (.iconst 1, 1) := by decide +kernel
theorem d_T_tell_90 : decode c_T_tell 90 = .ok (.aload_n 0, 1) := by decide +kernel
theorem d_T_tell_91 : decode c_T_tell 91 = .ok (.getfield 34, 3) := by decide +kernel
theorem d_T_tell_94 : decode c_T_tell 94 = .ok (.invokestatic 71, 3) := by decide +kernel
theorem d_T_tell_97 : decode c_T_tell 97 = .ok (.putfield 34, 3) := by decide +kernel
theorem d_T_tell_100 : decode c_T_tell 100 = .ok (.aload_n 0, 1) := by decide +kernel
theorem d_T_tell_101 : decode c_T_tell 101 = .ok (.invokevirtual 77, 3) := by decide +kernel
theorem d_T_tell_104 : decode c_T_tell 104 = .ok (.aload_n 0, 1) := by decide +kernel
theorem d_T_tell_105 : decode c_T_tell 105 = .ok (.iconst 1, 1) := by decide +kernel
theorem d_T_tell_106 : decode c_T_tell 106 = .ok (.putfield 40, 3) := by decide +kernel
theorem d_T_tell_109 : decode c_T_tell 109 = .ok (.return_, 1) := by decide +kernel
theorem d_T_measure_0 : decode c_T_measure 0 = .ok (.aload_n 0, 1) := by decide +kernel
theorem d_T_measure_1 : decode c_T_measure 1 = .ok (.getfield 24, 3) := by decide +kernel
theorem d_T_measure_4 : decode c_T_measure 4 = .ok (.aload_n 0, 1) := by decide +kernel
theorem d_T_measure_5 : decode c_T_measure 5 = .ok (.getfield 34, 3) := by decide +kernel
theorem d_T_measure_8 : decode c_T_measure 8 = .ok (.iconst 1, 1) := by decide +kernel
theorem d_T_measure_9 : decode c_T_measure 9 = .ok (.isub, 1) := by decide +kernel
theorem d_T_measure_10 : decode c_T_measure 10 = .ok (.iaload, 1) := by decide +kernel
theorem d_T_measure_11 : decode c_T_measure 11 = .ok (.istore_n 1, 1) := by decide +kernel
theorem d_T_measure_12 : decode c_T_measure 12 = .ok (.iconst 1, 1) := by decide +kernel
theorem d_T_measure_13 : decode c_T_measure 13 = .ok (.istore_n 2, 1) := by decide +kernel
theorem d_T_measure_14 : decode c_T_measure 14 = .ok (.iload_n 2, 1) := by decide +kernel
theorem d_T_measure_15 : decode c_T_measure 15 = .ok (.aload_n 0, 1) := by decide +kernel
theorem d_T_measure_16 : decode c_T_measure 16 = .ok (.getfield 61, 3) := by decide +kernel
theorem d_T_measure_19 : decode c_T_measure 19 = .ok (.if_icmp .ge 19, 3) := by decide +kernel
theorem d_T_measure_22 : decode c_T_measure 22 = .ok (.iload_n 1, 1) := by decide +kernel
theorem d_T_measure_23 : decode c_T_measure 23 = .ok (.aload_n 0, 1) := by decide +kernel
theorem d_T_measure_24 : decode c_T_measure 24 = .ok (.getfield 28, 3) := by decide +kernel
theorem d_T_measure_27 : decode c_T_measure 27 = .ok (.iload_n 2, 1) := by decide +kernel
theorem d_T_measure_28 : decode c_T_measure 28 = .ok (.iaload, 1) := by decide +kernel
theorem d_T_measure_29 : decode c_T_measure 29 = .ok (.if_icmp .lt 9, 3) := by decide +kernel
theorem d_T_measure_32 : decode c_T_measure 32 = .ok (.iinc 2 1, 3) := by decide +kernel
theorem d_T_measure_35 : decode c_T_measure 35 = .ok (.goto (-21), 3) := by decide +kernel
theorem d_T_measure_38 : decode c_T_measure 38 = .ok (.aload_n 0, 1) := by decide +kernel
theorem d_T_measure_39 : decode c_T_measure 39 = .ok (.aload_n 0, 1) := by decide +kernel
theorem d_T_measure_40 : decode c_T_measure 40 = .ok (.getfield 34, 3) := by decide +kernel
theorem d_T_measure_43 : decode c_T_measure 43 = .ok (.iconst 1, 1) := by decide +kernel
theorem d_T_measure_44 : decode c_T_measure 44 = .ok (.isub, 1) := by decide +kernel
theorem d_T_measure_45 : decode c_T_measure 45 = .ok (.aload_n 0, 1) := by decide +kernel
theorem d_T_measure_46 : decode c_T_measure 46 = .ok (.getfield 61, 3) := by decide +kernel
theorem d_T_measure_49 : decode c_T_measure 49 = .ok (.imul, 1) := by decide +kernel
theorem d_T_measure_50 : decode c_T_measure 50 = .ok (.iload_n 2, 1) := by decide +kernel
theorem d_T_measure_51 : decode c_T_measure 51 = .ok (.iadd, 1) := by decide +kernel
theorem d_T_measure_52 : decode c_T_measure 52 = .ok (.putfield 37, 3) := by decide +kernel
theorem d_T_measure_55 : decode c_T_measure 55 = .ok (.return_, 1) := by decide +kernel
theorem d_B_extractRoot_0 : decode c_B_extractRoot 0 = .ok (.aload_n 0, 1) := by decide +kernel
theorem d_B_extractRoot_1 : decode c_B_extractRoot 1 = .ok (.getfield 14, 3) := by decide +kernel
theorem d_B_extractRoot_4 : decode c_B_extractRoot 4 = .ok (.invokevirtual 91, 3) := by decide +kernel
theorem d_B_extractRoot_7 : decode c_B_extractRoot 7 = .ok (.bipush 60, 2) := by decide +kernel
theorem d_B_extractRoot_9 : decode c_B_extractRoot 9 = .ok (.iadd, 1) := by decide +kernel
theorem d_B_extractRoot_10 : decode c_B_extractRoot 10 = .ok (.iconst 1, 1) := by decide +kernel
theorem d_B_extractRoot_11 : decode c_B_extractRoot 11 = .ok (.isub, 1) := by decide +kernel
theorem d_B_extractRoot_12 : decode c_B_extractRoot 12 = .ok (.bipush 60, 2) := by decide +kernel
theorem d_B_extractRoot_14 : decode c_B_extractRoot 14 = .ok (.idiv, 1) := by decide +kernel
theorem d_B_extractRoot_15 : decode c_B_extractRoot 15 = .ok (.istore_n 1, 1) := by decide +kernel
theorem d_B_extractRoot_16 : decode c_B_extractRoot 16 = .ok (.aload_n 0, 1) := by decide +kernel
theorem d_B_extractRoot_17 : decode c_B_extractRoot 17 = .ok (.getfield 23, 3) := by decide +kernel
theorem d_B_extractRoot_20 : decode c_B_extractRoot 20 = .ok (.iload_n 1, 1) := by decide +kernel
theorem d_B_extractRoot_21 : decode c_B_extractRoot 21 = .ok (.iconst 1, 1) := by decide +kernel
theorem d_B_extractRoot_22 : decode c_B_extractRoot 22 = .ok (.iadd, 1) := by decide +kernel
theorem d_B_extractRoot_23 : decode c_B_extractRoot 23 = .ok (.invokevirtual 54, 3) := by decide +kernel
theorem d_B_extractRoot_26 : decode c_B_extractRoot 26 = .ok (.iload_n 1, 1) := by decide +kernel
theorem d_B_extractRoot_27 : decode c_B_extractRoot 27 = .ok (.ifCond .ne 11, 3) := by decide +kernel
theorem d_B_extractRoot_30 : decode c_B_extractRoot 30 = .ok (.aload_n 0, 1) := by decide +kernel
theorem d_B_extractRoot_31 : decode c_B_extractRoot 31 = .ok (.getfield 23, 3) := by decide +kernel
theorem d_B_extractRoot_34 : decode c_B_extractRoot 34 = .ok (.invokevirtual 74, 3) := by decide +kernel
theorem d_B_extractRoot_37 : decode c_B_extractRoot 37 = .ok (.return_, 1) := by decide +kernel
theorem d_B_extractRoot_38 : decode c_B_extractRoot 38 = .ok (.iload_n 1, 1) := by decide +kernel
theorem d_B_extractRoot_39 : decode c_B_extractRoot 39 = .ok (.iconst 2, 1) := by decide +kernel
theorem d_B_extractRoot_40 : decode c_B_extractRoot 40 = .ok (.imul, 1) := by decide +kernel
theorem d_B_extractRoot_41 : decode c_B_extractRoot 41 = .ok (.bipush 30, 2) := by decide +kernel
theorem d_B_extractRoot_43 : decode c_B_extractRoot 43 = .ok (.imul, 1) := by decide +kernel
theorem d_B_extractRoot_44 : decode c_B_extractRoot 44 = .ok (.aload_n 0, 1) := by decide +kernel
theorem d_B_extractRoot_45 : decode c_B_extractRoot 45 = .ok (.getfield 14, 3) := by decide +kernel
theorem d_B_extractRoot_48 : decode c_B_extractRoot 48 = .ok (.invokevirtual 91, 3) := by decide +kernel
theorem d_B_extractRoot_51 : decode c_B_extractRoot 51 = .ok (.isub, 1) := by decide +kernel
theorem d_B_extractRoot_52 : decode c_B_extractRoot 52 = .ok (.iconst 2, 1) := by decide +kernel
theorem d_B_extractRoot_53 : decode c_B_extractRoot 53 = .ok (.idiv, 1) := by decide +kernel
theorem d_B_extractRoot_54 : decode c_B_extractRoot 54 = .ok (.istore_n 2, 1) := by decide +kernel
theorem d_B_extractRoot_55 : decode c_B_extractRoot 55 = .ok (.aload_n 0, 1) := by decide +kernel
theorem d_B_extractRoot_56 : decode c_B_extractRoot 56 = .ok (.getfield 14, 3) := by decide +kernel
theorem d_B_extractRoot_59 : decode c_B_extractRoot 59 = .ok (.iconst 2, 1) := by decide +kernel
theorem d_B_extractRoot_60 : decode c_B_extractRoot 60 = .ok (.iload_n 2, 1) := by decide +kernel
theorem d_B_extractRoot_61 : decode c_B_extractRoot 61 = .ok (.imul, 1) := by decide +kernel
theorem d_B_extractRoot_62 : decode c_B_extractRoot 62 = .ok (.invokevirtual 65, 3) := by decide +kernel
theorem d_B_extractRoot_65 : decode c_B_extractRoot 65 = .ok (.aload_n 0, 1) := by decide +kernel
theorem d_B_extractRoot_66 : decode c_B_extractRoot 66 = .ok (.iload_n 1, 1) := by decide +kernel
theorem d_B_extractRoot_67 : decode c_B_extractRoot 67 = .ok (.invokevirtual 95, 3) := by decide +kernel
theorem d_B_extractRoot_70 : decode c_B_extractRoot 70 = .ok (.iconst 1, 1) := by decide +kernel
theorem d_B_extractRoot_71 : decode c_B_extractRoot 71 = .ok (.istore_n 3, 1) := by decide +kernel
theorem d_B_extractRoot_72 : decode c_B_extractRoot 72 = .ok (.iload_n 3, 1) := by decide +kernel
theorem d_B_extractRoot_73 : decode c_B_extractRoot 73 = .ok (.iload_n 1, 1) := by decide +kernel
theorem d_B_extractRoot_74 : decode c_B_extractRoot 74 = .ok (.if_icmp .ge 15, 3) := by decide +kernel
theorem d_B_extractRoot_77 : decode c_B_extractRoot 77 = .ok (.aload_n 0, 1) := by decide +kernel
theorem d_B_extractRoot_78 : decode c_B_extractRoot 78 = .ok (.iload_n 1, 1) := by decide +kernel
theorem d_B_extractRoot_79 : decode c_B_extractRoot 79 = .ok (.iload_n 3, 1) := by decide +kernel
theorem d_B_extractRoot_80 : decode c_B_extractRoot 80 = .ok (.invokevirtual 98, 3) := by decide +kernel
theorem d_B_extractRoot_83 : decode c_B_extractRoot 83 = .ok (.iinc 3 1, 3) := by decide +kernel
theorem d_B_extractRoot_86 : decode c_B_extractRoot 86 = .ok (.goto (-14), 3) := by decide +kernel
theorem d_B_extractRoot_89 : decode c_B_extractRoot 89 = .ok (.aload_n 0, 1) := by decide +kernel
theorem d_B_extractRoot_90 : decode c_B_extractRoot 90 = .ok (.getfield 23, 3) := by decide +kernel
theorem d_B_extractRoot_93 : decode c_B_extractRoot 93 = .ok (.iload_n 2, 1) := by decide +kernel
theorem d_B_extractRoot_94 : decode c_B_extractRoot 94 = .ok (.iconst 1, 1) := by decide +kernel
theorem d_B_extractRoot_95 : decode c_B_extractRoot 95 = .ok (.iadd, 1) := by decide +kernel
theorem d_B_extractRoot_96 : decode c_B_extractRoot 96 = .ok (.invokevirtual 47, 3) := by decide +kernel
theorem d_B_extractRoot_99 : decode c_B_extractRoot 99 = .ok (.return_, 1) := by decide +kernel
theorem d_B_takeFirstRootLimb_0 : decode c_B_takeFirstRootLimb 0 = .ok (.iconst 2, 1) := by decide +kernel
theorem d_B_takeFirstRootLimb_1 : decode c_B_takeFirstRootLimb 1 = .ok (.iload_n 1, 1) := by decide +kernel
theorem d_B_takeFirstRootLimb_2 : decode c_B_takeFirstRootLimb 2 = .ok (.imul, 1) := by decide +kernel
theorem d_B_takeFirstRootLimb_3 : decode c_B_takeFirstRootLimb 3 = .ok (.iconst 1, 1) := by decide +kernel
theorem d_B_takeFirstRootLimb_4 : decode c_B_takeFirstRootLimb 4 = .ok (.isub, 1) := by decide +kernel
theorem d_B_takeFirstRootLimb_5 : decode c_B_takeFirstRootLimb 5 = .ok (.istore_n 2, 1) := by decide +kernel
theorem d_B_takeFirstRootLimb_6 : decode c_B_takeFirstRootLimb 6 = .ok (.aload_n 0, 1) := by decide +kernel
theorem d_B_takeFirstRootLimb_7 : decode c_B_takeFirstRootLimb 7 = .ok (.getfield 14, 3) := by decide +kernel
theorem d_B_takeFirstRootLimb_10 : decode c_B_takeFirstRootLimb 10 = .ok (.getfield 57, 3) := by decide +kernel
theorem d_B_takeFirstRootLimb_13 : decode c_B_takeFirstRootLimb 13 = .ok (.iload_n 2, 1) := by decide +kernel
theorem d_B_takeFirstRootLimb_14 : decode c_B_takeFirstRootLimb 14 = .ok (.iaload, 1) := by decide +kernel
theorem d_B_takeFirstRootLimb_15 : decode c_B_takeFirstRootLimb 15 = .ok (.i2l, 1) := by decide +kernel
theorem d_B_takeFirstRootLimb_16 : decode c_B_takeFirstRootLimb 16 = .ok (.bipush 30, 2) := by decide +kernel
theorem d_B_takeFirstRootLimb_18 : decode c_B_takeFirstRootLimb 18 = .ok (.lshl, 1) := by decide +kernel
theorem d_B_takeFirstRootLimb_19 : decode c_B_takeFirstRootLimb 19 = .ok (.aload_n 0, 1) := by decide +kernel
theorem d_B_takeFirstRootLimb_20 : decode c_B_takeFirstRootLimb 20 = .ok (.getfield 14, 3) := by decide +kernel
theorem d_B_takeFirstRootLimb_23 : decode c_B_takeFirstRootLimb 23 = .ok (.getfield 57, 3) := by decide +kernel
theorem d_B_takeFirstRootLimb_26 : decode c_B_takeFirstRootLimb 26 = .ok (.iload_n 2, 1) := by decide +kernel
theorem d_B_takeFirstRootLimb_27 : decode c_B_takeFirstRootLimb 27 = .ok (.iconst 1, 1) := by decide +kernel
theorem d_B_takeFirstRootLimb_28 : decode c_B_takeFirstRootLimb 28 = .ok (.isub, 1) := by decide +kernel
theorem d_B_takeFirstRootLimb_29 : decode c_B_takeFirstRootLimb 29 = .ok (.iaload, 1) := by decide +kernel
theorem d_B_takeFirstRootLimb_30 : decode c_B_takeFirstRootLimb 30 = .ok (.i2l, 1) := by decide +kernel
theorem d_B_takeFirstRootLimb_31 : decode c_B_takeFirstRootLimb 31 = .ok (.lor, 1) := by decide +kernel
theorem d_B_takeFirstRootLimb_32 : decode c_B_takeFirstRootLimb 32 = .ok (.lstore_n 3, 1) := by decide +kernel
theorem d_B_takeFirstRootLimb_33 : decode c_B_takeFirstRootLimb 33 = .ok (.lconst 0, 1) := by decide +kernel
theorem d_B_takeFirstRootLimb_34 : decode c_B_takeFirstRootLimb 34 = .ok (.lstore 5, 2) := by decide +kernel
theorem d_B_takeFirstRootLimb_36 : decode c_B_takeFirstRootLimb 36 = .ok (.bipush 29, 2) := by decide +kernel
theorem d_B_takeFirstRootLimb_38 : decode c_B_takeFirstRootLimb 38 = .ok (.istore 7, 2) := by decide +kernel
theorem d_B_takeFirstRootLimb_40 : decode c_B_takeFirstRootLimb 40 = .ok (.iload 7, 2) := by decide +kernel
theorem d_B_takeFirstRootLimb_42 : decode c_B_takeFirstRootLimb 42 = .ok (.ifCond .lt 32, 3) := by decide +kernel
theorem d_B_takeFirstRootLimb_45 : decode c_B_takeFirstRootLimb 45 = .ok (.lload 5, 2) := by decide +kernel
theorem d_B_takeFirstRootLimb_47 : decode c_B_takeFirstRootLimb 47 = .ok (.lconst 1, 1) := by decide +kernel
theorem d_B_takeFirstRootLimb_48 : decode c_B_takeFirstRootLimb 48 = .ok (.iload 7, 2) := by decide +kernel
theorem d_B_takeFirstRootLimb_50 : decode c_B_takeFirstRootLimb 50 = .ok (.lshl, 1) := by decide +kernel
theorem d_B_takeFirstRootLimb_51 : decode c_B_takeFirstRootLimb 51 = .ok (.lor, 1) := by decide +kernel
theorem d_B_takeFirstRootLimb_52 : decode c_B_takeFirstRootLimb 52 = .ok (.lstore 8, 2) := by decide +kernel
theorem d_B_takeFirstRootLimb_54 : decode c_B_takeFirstRootLimb 54 = .ok (.lload 8, 2) := by decide +kernel
theorem d_B_takeFirstRootLimb_56 : decode c_B_takeFirstRootLimb 56 = .ok (.lload 8, 2) := by decide +kernel
theorem d_B_takeFirstRootLimb_58 : decode c_B_takeFirstRootLimb 58 = .ok (.lmul, 1) := by decide +kernel
theorem d_B_takeFirstRootLimb_59 : decode c_B_takeFirstRootLimb 59 = .ok (.lload_n 3, 1) := by decide +kernel
theorem d_B_takeFirstRootLimb_60 : decode c_B_takeFirstRootLimb 60 = .ok (.lcmp, 1) := by decide +kernel
theorem d_B_takeFirstRootLimb_61 : decode c_B_takeFirstRootLimb 61 = .ok (.ifCond .gt 7, 3) := by decide +kernel
theorem d_B_takeFirstRootLimb_64 : decode c_B_takeFirstRootLimb 64 = .ok (.lload 8, 2) := by decide +kernel
theorem d_B_takeFirstRootLimb_66 : decode c_B_takeFirstRootLimb 66 = .ok (.lstore 5, 2) := by decide +kernel
theorem d_B_takeFirstRootLimb_68 : decode c_B_takeFirstRootLimb 68 = .ok (.iinc 7 (-1), 3) := by decide +kernel
theorem d_B_takeFirstRootLimb_71 : decode c_B_takeFirstRootLimb 71 = .ok (.goto (-31), 3) := by decide +kernel
theorem d_B_takeFirstRootLimb_74 : decode c_B_takeFirstRootLimb 74 = .ok (.lload_n 3, 1) := by decide +kernel
theorem d_B_takeFirstRootLimb_75 : decode c_B_takeFirstRootLimb 75 = .ok (.lload 5, 2) := by decide +kernel
theorem d_B_takeFirstRootLimb_77 : decode c_B_takeFirstRootLimb 77 = .ok (.lload 5, 2) := by decide +kernel
theorem d_B_takeFirstRootLimb_79 : decode c_B_takeFirstRootLimb 79 = .ok (.lmul, 1) := by decide +kernel
theorem d_B_takeFirstRootLimb_80 : decode c_B_takeFirstRootLimb 80 = .ok (.lsub, 1) := by decide +kernel
theorem d_B_takeFirstRootLimb_81 : decode c_B_takeFirstRootLimb 81 = .ok (.lstore 7, 2) := by decide +kernel
theorem d_B_takeFirstRootLimb_83 : decode c_B_takeFirstRootLimb 83 = .ok (.aload_n 0, 1) := by decide +kernel
theorem d_B_takeFirstRootLimb_84 : decode c_B_takeFirstRootLimb 84 = .ok (.getfield 14, 3) := by decide +kernel
theorem d_B_takeFirstRootLimb_87 : decode c_B_takeFirstRootLimb 87 = .ok (.getfield 57, 3) := by decide +kernel
theorem d_B_takeFirstRootLimb_90 : decode c_B_takeFirstRootLimb 90 = .ok (.iload_n 2, 1) := by decide +kernel
theorem d_B_takeFirstRootLimb_91 : decode c_B_takeFirstRootLimb 91 = .ok (.lload 7, 2) := by decide +kernel
theorem d_B_takeFirstRootLimb_93 : decode c_B_takeFirstRootLimb 93 = .ok (.bipush 30, 2) := by decide +kernel
theorem d_B_takeFirstRootLimb_95 : decode c_B_takeFirstRootLimb 95 = .ok (.lshr, 1) := by decide +kernel
theorem d_B_takeFirstRootLimb_96 : decode c_B_takeFirstRootLimb 96 = .ok (.l2i, 1) := by decide +kernel
theorem d_B_takeFirstRootLimb_97 : decode c_B_takeFirstRootLimb 97 = .ok (.iastore, 1) := by decide +kernel
theorem d_B_takeFirstRootLimb_98 : decode c_B_takeFirstRootLimb 98 = .ok (.aload_n 0, 1) := by decide +kernel
theorem d_B_takeFirstRootLimb_99 : decode c_B_takeFirstRootLimb 99 = .ok (.getfield 14, 3) := by decide +kernel
theorem d_B_takeFirstRootLimb_102 : decode c_B_takeFirstRootLimb 102 = .ok (.getfield 57, 3) := by decide +kernel
theorem d_B_takeFirstRootLimb_105 : decode c_B_takeFirstRootLimb 105 = .ok (.iload_n 2, 1) := by decide +kernel
theorem d_B_takeFirstRootLimb_106 : decode c_B_takeFirstRootLimb 106 = .ok (.iconst 1, 1) := by decide +kernel
theorem d_B_takeFirstRootLimb_107 : decode c_B_takeFirstRootLimb 107 = .ok (.isub, 1) := by decide +kernel
theorem d_B_takeFirstRootLimb_108 : decode c_B_takeFirstRootLimb 108 = .ok (.lload 7, 2) := by decide +kernel
theorem d_B_takeFirstRootLimb_110 : decode c_B_takeFirstRootLimb 110 = .ok (.ldc2_w 77, 3) := by decide +kernel
theorem d_B_takeFirstRootLimb_113 : decode c_B_takeFirstRootLimb 113 = .ok (.land, 1) := by decide +kernel
theorem d_B_takeFirstRootLimb_114 : decode c_B_takeFirstRootLimb 114 = .ok (.l2i, 1) := by decide +kernel
theorem d_B_takeFirstRootLimb_115 : decode c_B_takeFirstRootLimb 115 = .ok (.iastore, 1) := by decide +kernel
theorem d_B_takeFirstRootLimb_116 : decode c_B_takeFirstRootLimb 116 = .ok (.aload_n 0, 1) := by decide +kernel
theorem d_B_takeFirstRootLimb_117 : decode c_B_takeFirstRootLimb 117 = .ok (.iload_n 1, 1) := by decide +kernel
theorem d_B_takeFirstRootLimb_118 : decode c_B_takeFirstRootLimb 118 = .ok (.iconst 1, 1) := by decide +kernel
theorem d_B_takeFirstRootLimb_119 : decode c_B_takeFirstRootLimb 119 = .ok (.isub, 1) := by decide +kernel
theorem d_B_takeFirstRootLimb_120 : decode c_B_takeFirstRootLimb 120 = .ok (.lload 5, 2) := by decide +kernel
theorem d_B_takeFirstRootLimb_122 : decode c_B_takeFirstRootLimb 122 = .ok (.invokevirtual 101, 3) := by decide +kernel
theorem d_B_takeFirstRootLimb_125 : decode c_B_takeFirstRootLimb 125 = .ok (.return_, 1) := by decide +kernel
theorem d_B_setTwice_0 : decode c_B_setTwice 0 = .ok (.aload_n 0, 1) := by decide +kernel
theorem d_B_setTwice_1 : decode c_B_setTwice 1 = .ok (.getfield 23, 3) := by decide +kernel
theorem d_B_setTwice_4 : decode c_B_setTwice 4 = .ok (.getfield 57, 3) := by decide +kernel
theorem d_B_setTwice_7 : decode c_B_setTwice 7 = .ok (.iload_n 1, 1) := by decide +kernel
theorem d_B_setTwice_8 : decode c_B_setTwice 8 = .ok (.ldc2_w 105, 3) := by decide +kernel
theorem d_B_setTwice_11 : decode c_B_setTwice 11 = .ok (.lload_n 2, 1) := by decide +kernel
theorem d_B_setTwice_12 : decode c_B_setTwice 12 = .ok (.lmul, 1) := by decide +kernel
theorem d_B_setTwice_13 : decode c_B_setTwice 13 = .ok (.ldc2_w 77, 3) := by decide +kernel
theorem d_B_setTwice_16 : decode c_B_setTwice 16 = .ok (.land, 1) := by decide +kernel
theorem d_B_setTwice_17 : decode c_B_setTwice 17 = .ok (.l2i, 1) := by decide +kernel
theorem d_B_setTwice_18 : decode c_B_setTwice 18 = .ok (.iastore, 1) := by decide +kernel
theorem d_B_setTwice_19 : decode c_B_setTwice 19 = .ok (.aload_n 0, 1) := by decide +kernel
theorem d_B_setTwice_20 : decode c_B_setTwice 20 = .ok (.getfield 23, 3) := by decide +kernel
theorem d_B_setTwice_23 : decode c_B_setTwice 23 = .ok (.getfield 57, 3) := by decide +kernel
theorem d_B_setTwice_26 : decode c_B_setTwice 26 = .ok (.iload_n 1, 1) := by decide +kernel
theorem d_B_setTwice_27 : decode c_B_setTwice 27 = .ok (.iconst 1, 1) := by decide +kernel
theorem d_B_setTwice_28 : decode c_B_setTwice 28 = .ok (.iadd, 1) := by decide +kernel
theorem d_B_setTwice_29 : decode c_B_setTwice 29 = .ok (.dup2, 1) := by decide +kernel
theorem d_B_setTwice_30 : decode c_B_setTwice 30 = .ok (.iaload, 1) := by decide +kernel
theorem d_B_setTwice_31 : decode c_B_setTwice 31 = .ok (.ldc2_w 105, 3) := by decide +kernel
theorem d_B_setTwice_34 : decode c_B_setTwice 34 = .ok (.lload_n 2, 1) := by decide +kernel
theorem d_B_setTwice_35 : decode c_B_setTwice 35 = .ok (.lmul, 1) := by decide +kernel
theorem d_B_setTwice_36 : decode c_B_setTwice 36 = .ok (.bipush 30, 2) := by decide +kernel
theorem d_B_setTwice_38 : decode c_B_setTwice 38 = .ok (.lshr, 1) := by decide +kernel
theorem d_B_setTwice_39 : decode c_B_setTwice 39 = .ok (.l2i, 1) := by decide +kernel
theorem d_B_setTwice_40 : decode c_B_setTwice 40 = .ok (.iadd, 1) := by decide +kernel
theorem d_B_setTwice_41 : decode c_B_setTwice 41 = .ok (.iastore, 1) := by decide +kernel
theorem d_B_setTwice_42 : decode c_B_setTwice 42 = .ok (.return_, 1) := by decide +kernel
theorem d_B_takeRootLimb_0 : decode c_B_takeRootLimb 0 = .ok (.iload_n 1, 1) := by decide +kernel
theorem d_B_takeRootLimb_1 : decode c_B_takeRootLimb 1 = .ok (.iconst 1, 1) := by decide +kernel
theorem d_B_takeRootLimb_2 : decode c_B_takeRootLimb 2 = .ok (.isub, 1) := by decide +kernel
theorem d_B_takeRootLimb_3 : decode c_B_takeRootLimb 3 = .ok (.iload_n 2, 1) := by decide +kernel
theorem d_B_takeRootLimb_4 : decode c_B_takeRootLimb 4 = .ok (.isub, 1) := by decide +kernel
theorem d_B_takeRootLimb_5 : decode c_B_takeRootLimb 5 = .ok (.istore_n 3, 1) := by decide +kernel
theorem d_B_takeRootLimb_6 : decode c_B_takeRootLimb 6 = .ok (.iconst 2, 1) := by decide +kernel
theorem d_B_takeRootLimb_7 : decode c_B_takeRootLimb 7 = .ok (.iload_n 3, 1) := by decide +kernel
theorem d_B_takeRootLimb_8 : decode c_B_takeRootLimb 8 = .ok (.imul, 1) := by decide +kernel
theorem d_B_takeRootLimb_9 : decode c_B_takeRootLimb 9 = .ok (.istore 4, 2) := by decide +kernel
theorem d_B_takeRootLimb_11 : decode c_B_takeRootLimb 11 = .ok (.iload 4, 2) := by decide +kernel
theorem d_B_takeRootLimb_13 : decode c_B_takeRootLimb 13 = .ok (.iload_n 2, 1) := by decide +kernel
theorem d_B_takeRootLimb_14 : decode c_B_takeRootLimb 14 = .ok (.iadd, 1) := by decide +kernel
theorem d_B_takeRootLimb_15 : decode c_B_takeRootLimb 15 = .ok (.istore 5, 2) := by decide +kernel
theorem d_B_takeRootLimb_17 : decode c_B_takeRootLimb 17 = .ok (.aload_n 0, 1) := by decide +kernel
theorem d_B_takeRootLimb_18 : decode c_B_takeRootLimb 18 = .ok (.getfield 23, 3) := by decide +kernel
theorem d_B_takeRootLimb_21 : decode c_B_takeRootLimb 21 = .ok (.getfield 57, 3) := by decide +kernel
theorem d_B_takeRootLimb_24 : decode c_B_takeRootLimb 24 = .ok (.iload_n 1, 1) := by decide +kernel
theorem d_B_takeRootLimb_25 : decode c_B_takeRootLimb 25 = .ok (.iaload, 1) := by decide +kernel
theorem d_B_takeRootLimb_26 : decode c_B_takeRootLimb 26 = .ok (.i2l, 1) := by decide +kernel
theorem d_B_takeRootLimb_27 : decode c_B_takeRootLimb 27 = .ok (.bipush 30, 2) := by decide +kernel
theorem d_B_takeRootLimb_29 : decode c_B_takeRootLimb 29 = .ok (.lshl, 1) := by decide +kernel
theorem d_B_takeRootLimb_30 : decode c_B_takeRootLimb 30 = .ok (.aload_n 0, 1) := by decide +kernel
theorem d_B_takeRootLimb_31 : decode c_B_takeRootLimb 31 = .ok (.getfield 23, 3) := by decide +kernel
theorem d_B_takeRootLimb_34 : decode c_B_takeRootLimb 34 = .ok (.getfield 57, 3) := by decide +kernel
theorem d_B_takeRootLimb_37 : decode c_B_takeRootLimb 37 = .ok (.iload_n 1, 1) := by decide +kernel
theorem d_B_takeRootLimb_38 : decode c_B_takeRootLimb 38 = .ok (.iconst 1, 1) := by decide +kernel
theorem d_B_takeRootLimb_39 : decode c_B_takeRootLimb 39 = .ok (.isub, 1) := by decide +kernel
theorem d_B_takeRootLimb_40 : decode c_B_takeRootLimb 40 = .ok (.iaload, 1) := by decide +kernel
theorem d_B_takeRootLimb_41 : decode c_B_takeRootLimb 41 = .ok (.i2l, 1) := by decide +kernel
theorem d_B_takeRootLimb_42 : decode c_B_takeRootLimb 42 = .ok (.lor, 1) := by decide +kernel
theorem d_B_takeRootLimb_43 : decode c_B_takeRootLimb 43 = .ok (.lstore 6, 2) := by decide +kernel
theorem d_B_takeRootLimb_45 : decode c_B_takeRootLimb 45 = .ok (.aload_n 0, 1) := by decide +kernel
theorem d_B_takeRootLimb_46 : decode c_B_takeRootLimb 46 = .ok (.getfield 14, 3) := by decide +kernel
theorem d_B_takeRootLimb_49 : decode c_B_takeRootLimb 49 = .ok (.getfield 57, 3) := by decide +kernel
theorem d_B_takeRootLimb_52 : decode c_B_takeRootLimb 52 = .ok (.iload 5, 2) := by decide +kernel
theorem d_B_takeRootLimb_54 : decode c_B_takeRootLimb 54 = .ok (.iconst 2, 1) := by decide +kernel
theorem d_B_takeRootLimb_55 : decode c_B_takeRootLimb 55 = .ok (.iadd, 1) := by decide +kernel
theorem d_B_takeRootLimb_56 : decode c_B_takeRootLimb 56 = .ok (.iaload, 1) := by decide +kernel
theorem d_B_takeRootLimb_57 : decode c_B_takeRootLimb 57 = .ok (.i2l, 1) := by decide +kernel
theorem d_B_takeRootLimb_58 : decode c_B_takeRootLimb 58 = .ok (.bipush 30, 2) := by decide +kernel
theorem d_B_takeRootLimb_60 : decode c_B_takeRootLimb 60 = .ok (.lshl, 1) := by decide +kernel
theorem d_B_takeRootLimb_61 : decode c_B_takeRootLimb 61 = .ok (.aload_n 0, 1) := by decide +kernel
theorem d_B_takeRootLimb_62 : decode c_B_takeRootLimb 62 = .ok (.getfield 14, 3) := by decide +kernel
theorem d_B_takeRootLimb_65 : decode c_B_takeRootLimb 65 = .ok (.getfield 57, 3) := by decide +kernel
theorem d_B_takeRootLimb_68 : decode c_B_takeRootLimb 68 = .ok (.iload 5, 2) := by decide +kernel
theorem d_B_takeRootLimb_70 : decode c_B_takeRootLimb 70 = .ok (.iconst 1, 1) := by decide +kernel
theorem d_B_takeRootLimb_71 : decode c_B_takeRootLimb 71 = .ok (.iadd, 1) := by decide +kernel
theorem d_B_takeRootLimb_72 : decode c_B_takeRootLimb 72 = .ok (.iaload, 1) := by decide +kernel
theorem d_B_takeRootLimb_73 : decode c_B_takeRootLimb 73 = .ok (.i2l, 1) := by decide +kernel
theorem d_B_takeRootLimb_74 : decode c_B_takeRootLimb 74 = .ok (.lor, 1) := by decide +kernel
theorem d_B_takeRootLimb_75 : decode c_B_takeRootLimb 75 = .ok (.lstore 8, 2) := by decide +kernel
theorem d_B_takeRootLimb_77 : decode c_B_takeRootLimb 77 = .ok (.lload 8, 2) := by decide +kernel
theorem d_B_takeRootLimb_79 : decode c_B_takeRootLimb 79 = .ok (.bipush 30, 2) := by decide +kernel
theorem d_B_takeRootLimb_81 : decode c_B_takeRootLimb 81 = .ok (.lshl, 1) := by decide +kernel
theorem d_B_takeRootLimb_82 : decode c_B_takeRootLimb 82 = .ok (.aload_n 0, 1) := by decide +kernel
theorem d_B_takeRootLimb_83 : decode c_B_takeRootLimb 83 = .ok (.getfield 14, 3) := by decide +kernel
theorem d_B_takeRootLimb_86 : decode c_B_takeRootLimb 86 = .ok (.getfield 57, 3) := by decide +kernel
theorem d_B_takeRootLimb_89 : decode c_B_takeRootLimb 89 = .ok (.iload 5, 2) := by decide +kernel
theorem d_B_takeRootLimb_91 : decode c_B_takeRootLimb 91 = .ok (.iaload, 1) := by decide +kernel
theorem d_B_takeRootLimb_92 : decode c_B_takeRootLimb 92 = .ok (.i2l, 1) := by decide +kernel
theorem d_B_takeRootLimb_93 : decode c_B_takeRootLimb 93 = .ok (.lor, 1) := by decide +kernel
theorem d_B_takeRootLimb_94 : decode c_B_takeRootLimb 94 = .ok (.lstore 8, 2) := by decide +kernel
theorem d_B_takeRootLimb_96 : decode c_B_takeRootLimb 96 = .ok (.lload 6, 2) := by decide +kernel
theorem d_B_takeRootLimb_98 : decode c_B_takeRootLimb 98 = .ok (.lconst 0, 1) := by decide +kernel
theorem d_B_takeRootLimb_99 : decode c_B_takeRootLimb 99 = .ok (.lcmp, 1) := by decide +kernel
theorem d_B_takeRootLimb_100 : decode c_B_takeRootLimb 100 = .ok (.ifCond .le 17, 3) := by decide +kernel
theorem d_B_takeRootLimb_103 : decode c_B_takeRootLimb 103 = .ok (.ldc2_w 77, 3) := by decide +kernel
theorem d_B_takeRootLimb_106 : decode c_B_takeRootLimb 106 = .ok (.lload 8, 2) := by decide +kernel
theorem d_B_takeRootLimb_108 : decode c_B_takeRootLimb 108 = .ok (.lload 6, 2) := by decide +kernel
theorem d_B_takeRootLimb_110 : decode c_B_takeRootLimb 110 = .ok (.ldiv, 1) := by decide +kernel
theorem d_B_takeRootLimb_111 : decode c_B_takeRootLimb 111 = .ok (.invokestatic 79, 3) := by decide +kernel
theorem d_B_takeRootLimb_114 : decode c_B_takeRootLimb 114 = .ok (.goto 4, 3) := by decide +kernel
theorem d_B_takeRootLimb_117 : decode c_B_takeRootLimb 117 = .ok (.lconst 0, 1) := by decide +kernel
theorem d_B_takeRootLimb_118 : decode c_B_takeRootLimb 118 = .ok (.lstore 10, 2) := by decide +kernel
theorem d_B_takeRootLimb_120 : decode c_B_takeRootLimb 120 = .ok (.aload_n 0, 1) := by decide +kernel
theorem d_B_takeRootLimb_121 : decode c_B_takeRootLimb 121 = .ok (.getfield 23, 3) := by decide +kernel
theorem d_B_takeRootLimb_124 : decode c_B_takeRootLimb 124 = .ok (.getfield 57, 3) := by decide +kernel
theorem d_B_takeRootLimb_127 : decode c_B_takeRootLimb 127 = .ok (.iload_n 3, 1) := by decide +kernel
theorem d_B_takeRootLimb_128 : decode c_B_takeRootLimb 128 = .ok (.lload 10, 2) := by decide +kernel
theorem d_B_takeRootLimb_130 : decode c_B_takeRootLimb 130 = .ok (.l2i, 1) := by decide +kernel
theorem d_B_takeRootLimb_131 : decode c_B_takeRootLimb 131 = .ok (.iastore, 1) := by decide +kernel
theorem d_B_takeRootLimb_132 : decode c_B_takeRootLimb 132 = .ok (.aload_n 0, 1) := by decide +kernel
theorem d_B_takeRootLimb_133 : decode c_B_takeRootLimb 133 = .ok (.getfield 14, 3) := by decide +kernel
theorem d_B_takeRootLimb_136 : decode c_B_takeRootLimb 136 = .ok (.iload 4, 2) := by decide +kernel
theorem d_B_takeRootLimb_138 : decode c_B_takeRootLimb 138 = .ok (.aload_n 0, 1) := by decide +kernel
theorem d_B_takeRootLimb_139 : decode c_B_takeRootLimb 139 = .ok (.getfield 23, 3) := by decide +kernel
theorem d_B_takeRootLimb_142 : decode c_B_takeRootLimb 142 = .ok (.iload_n 3, 1) := by decide +kernel
theorem d_B_takeRootLimb_143 : decode c_B_takeRootLimb 143 = .ok (.iload_n 2, 1) := by decide +kernel
theorem d_B_takeRootLimb_144 : decode c_B_takeRootLimb 144 = .ok (.iconst 2, 1) := by decide +kernel
theorem d_B_takeRootLimb_145 : decode c_B_takeRootLimb 145 = .ok (.iadd, 1) := by decide +kernel
theorem d_B_takeRootLimb_146 : decode c_B_takeRootLimb 146 = .ok (.lload 10, 2) := by decide +kernel
theorem d_B_takeRootLimb_148 : decode c_B_takeRootLimb 148 = .ok (.invokevirtual 85, 3) := by decide +kernel
theorem d_B_takeRootLimb_151 : decode c_B_takeRootLimb 151 = .ok (.ifCond .ge 48, 3) := by decide +kernel
theorem d_B_takeRootLimb_154 : decode c_B_takeRootLimb 154 = .ok (.lload 10, 2) := by decide +kernel
theorem d_B_takeRootLimb_156 : decode c_B_takeRootLimb 156 = .ok (.lconst 1, 1) := by decide +kernel
theorem d_B_takeRootLimb_157 : decode c_B_takeRootLimb 157 = .ok (.lsub, 1) := by decide +kernel
theorem d_B_takeRootLimb_158 : decode c_B_takeRootLimb 158 = .ok (.lstore 10, 2) := by decide +kernel
theorem d_B_takeRootLimb_160 : decode c_B_takeRootLimb 160 = .ok (.aload_n 0, 1) := by decide +kernel
theorem d_B_takeRootLimb_161 : decode c_B_takeRootLimb 161 = .ok (.getfield 23, 3) := by decide +kernel
theorem d_B_takeRootLimb_164 : decode c_B_takeRootLimb 164 = .ok (.getfield 57, 3) := by decide +kernel
theorem d_B_takeRootLimb_167 : decode c_B_takeRootLimb 167 = .ok (.iload_n 3, 1) := by decide +kernel
theorem d_B_takeRootLimb_168 : decode c_B_takeRootLimb 168 = .ok (.ldc2_w 105, 3) := by decide +kernel
theorem d_B_takeRootLimb_171 : decode c_B_takeRootLimb 171 = .ok (.lload 10, 2) := by decide +kernel
theorem d_B_takeRootLimb_173 : decode c_B_takeRootLimb 173 = .ok (.lmul, 1) := by decide +kernel
theorem d_B_takeRootLimb_174 : decode c_B_takeRootLimb 174 = .ok (.lconst 1, 1) := by decide +kernel
theorem d_B_takeRootLimb_175 : decode c_B_takeRootLimb 175 = .ok (.ladd, 1) := by decide +kernel
theorem d_B_takeRootLimb_176 : decode c_B_takeRootLimb 176 = .ok (.l2i, 1) := by decide +kernel
theorem d_B_takeRootLimb_177 : decode c_B_takeRootLimb 177 = .ok (.iastore, 1) := by decide +kernel
theorem d_B_takeRootLimb_178 : decode c_B_takeRootLimb 178 = .ok (.aload_n 0, 1) := by decide +kernel
theorem d_B_takeRootLimb_179 : decode c_B_takeRootLimb 179 = .ok (.getfield 14, 3) := by decide +kernel
theorem d_B_takeRootLimb_182 : decode c_B_takeRootLimb 182 = .ok (.iload 4, 2) := by decide +kernel
theorem d_B_takeRootLimb_184 : decode c_B_takeRootLimb 184 = .ok (.aload_n 0, 1) := by decide +kernel
theorem d_B_takeRootLimb_185 : decode c_B_takeRootLimb 185 = .ok (.getfield 23, 3) := by decide +kernel
theorem d_B_takeRootLimb_188 : decode c_B_takeRootLimb 188 = .ok (.iload_n 3, 1) := by decide +kernel
theorem d_B_takeRootLimb_189 : decode c_B_takeRootLimb 189 = .ok (.iload_n 2, 1) := by decide +kernel
theorem d_B_takeRootLimb_190 : decode c_B_takeRootLimb 190 = .ok (.iconst 2, 1) := by decide +kernel
theorem d_B_takeRootLimb_191 : decode c_B_takeRootLimb 191 = .ok (.iadd, 1) := by decide +kernel
theorem d_B_takeRootLimb_192 : decode c_B_takeRootLimb 192 = .ok (.ldc2_w 89, 3) := by decide +kernel
theorem d_B_takeRootLimb_195 : decode c_B_takeRootLimb 195 = .ok (.invokevirtual 85, 3) := by decide +kernel
theorem d_B_takeRootLimb_198 : decode c_B_takeRootLimb 198 = .ok (.pop, 1) := by decide +kernel
theorem d_B_takeRootLimb_199 : decode c_B_takeRootLimb 199 = .ok (.aload_n 0, 1) := by decide +kernel
theorem d_B_takeRootLimb_200 : decode c_B_takeRootLimb 200 = .ok (.iload_n 3, 1) := by decide +kernel
theorem d_B_takeRootLimb_201 : decode c_B_takeRootLimb 201 = .ok (.lload 10, 2) := by decide +kernel
theorem d_B_takeRootLimb_203 : decode c_B_takeRootLimb 203 = .ok (.invokevirtual 101, 3) := by decide +kernel
theorem d_B_takeRootLimb_206 : decode c_B_takeRootLimb 206 = .ok (.return_, 1) := by decide +kernel
theorem d_B_makeGolden_0 : decode c_B_makeGolden 0 = .ok (.aload_n 0, 1) := by decide +kernel
theorem d_B_makeGolden_1 : decode c_B_makeGolden 1 = .ok (.ldc2_w 37, 3) := by decide +kernel
theorem d_B_makeGolden_4 : decode c_B_makeGolden 4 = .ok (.iload_n 1, 1) := by decide +kernel
theorem d_B_makeGolden_5 : decode c_B_makeGolden 5 = .ok (.iload_n 2, 1) := by decide +kernel
theorem d_B_makeGolden_6 : decode c_B_makeGolden 6 = .ok (.invokevirtual 39, 3) := by decide +kernel
theorem d_B_makeGolden_9 : decode c_B_makeGolden 9 = .ok (.aload_n 0, 1) := by decide +kernel
theorem d_B_makeGolden_10 : decode c_B_makeGolden 10 = .ok (.getfield 14, 3) := by decide +kernel
theorem d_B_makeGolden_13 : decode c_B_makeGolden 13 = .ok (.lconst 1, 1) := by decide +kernel
theorem d_B_makeGolden_14 : decode c_B_makeGolden 14 = .ok (.invokevirtual 26, 3) := by decide +kernel
theorem d_B_makeGolden_17 : decode c_B_makeGolden 17 = .ok (.aload_n 0, 1) := by decide +kernel
theorem d_B_makeGolden_18 : decode c_B_makeGolden 18 = .ok (.getfield 14, 3) := by decide +kernel
theorem d_B_makeGolden_21 : decode c_B_makeGolden 21 = .ok (.iload_n 2, 1) := by decide +kernel
theorem d_B_makeGolden_22 : decode c_B_makeGolden 22 = .ok (.iload_n 1, 1) := by decide +kernel
theorem d_B_makeGolden_23 : decode c_B_makeGolden 23 = .ok (.invokevirtual 30, 3) := by decide +kernel
theorem d_B_makeGolden_26 : decode c_B_makeGolden 26 = .ok (.aload_n 0, 1) := by decide +kernel
theorem d_B_makeGolden_27 : decode c_B_makeGolden 27 = .ok (.getfield 23, 3) := by decide +kernel
theorem d_B_makeGolden_30 : decode c_B_makeGolden 30 = .ok (.aload_n 0, 1) := by decide +kernel
theorem d_B_makeGolden_31 : decode c_B_makeGolden 31 = .ok (.getfield 14, 3) := by decide +kernel
theorem d_B_makeGolden_34 : decode c_B_makeGolden 34 = .ok (.invokevirtual 43, 3) := by decide +kernel
theorem d_B_makeGolden_37 : decode c_B_makeGolden 37 = .ok (.aload_n 0, 1) := by decide +kernel
theorem d_B_makeGolden_38 : decode c_B_makeGolden 38 = .ok (.getfield 23, 3) := by decide +kernel
theorem d_B_makeGolden_41 : decode c_B_makeGolden 41 = .ok (.iconst 1, 1) := by decide +kernel
theorem d_B_makeGolden_42 : decode c_B_makeGolden 42 = .ok (.invokevirtual 47, 3) := by decide +kernel
theorem d_B_makeGolden_45 : decode c_B_makeGolden 45 = .ok (.return_, 1) := by decide +kernel
theorem d_B_makeRoot_0 : decode c_B_makeRoot 0 = .ok (.aload_n 0, 1) := by decide +kernel
theorem d_B_makeRoot_1 : decode c_B_makeRoot 1 = .ok (.getfield 14, 3) := by decide +kernel
theorem d_B_makeRoot_4 : decode c_B_makeRoot 4 = .ok (.lload_n 1, 1) := by decide +kernel
theorem d_B_makeRoot_5 : decode c_B_makeRoot 5 = .ok (.invokevirtual 26, 3) := by decide +kernel
theorem d_B_makeRoot_8 : decode c_B_makeRoot 8 = .ok (.aload_n 0, 1) := by decide +kernel
theorem d_B_makeRoot_9 : decode c_B_makeRoot 9 = .ok (.getfield 14, 3) := by decide +kernel
theorem d_B_makeRoot_12 : decode c_B_makeRoot 12 = .ok (.iload 4, 2) := by decide +kernel
theorem d_B_makeRoot_14 : decode c_B_makeRoot 14 = .ok (.iconst 2, 1) := by decide +kernel
theorem d_B_makeRoot_15 : decode c_B_makeRoot 15 = .ok (.iload_n 3, 1) := by decide +kernel
theorem d_B_makeRoot_16 : decode c_B_makeRoot 16 = .ok (.imul, 1) := by decide +kernel
theorem d_B_makeRoot_17 : decode c_B_makeRoot 17 = .ok (.invokevirtual 30, 3) := by decide +kernel
theorem d_B_makeRoot_20 : decode c_B_makeRoot 20 = .ok (.aload_n 0, 1) := by decide +kernel
theorem d_B_makeRoot_21 : decode c_B_makeRoot 21 = .ok (.invokevirtual 34, 3) := by decide +kernel
theorem d_B_makeRoot_24 : decode c_B_makeRoot 24 = .ok (.return_, 1) := by decide +kernel
theorem d_B_makeQuotient_0 : decode c_B_makeQuotient 0 = .ok (.aload_n 0, 1) := by decide +kernel
theorem d_B_makeQuotient_1 : decode c_B_makeQuotient 1 = .ok (.getfield 14, 3) := by decide +kernel
theorem d_B_makeQuotient_4 : decode c_B_makeQuotient 4 = .ok (.getfield 50, 3) := by decide +kernel
theorem d_B_makeQuotient_7 : decode c_B_makeQuotient 7 = .ok (.aload_n 0, 1) := by decide +kernel
theorem d_B_makeQuotient_8 : decode c_B_makeQuotient 8 = .ok (.getfield 20, 3) := by decide +kernel
theorem d_B_makeQuotient_11 : decode c_B_makeQuotient 11 = .ok (.getfield 50, 3) := by decide +kernel
theorem d_B_makeQuotient_14 : decode c_B_makeQuotient 14 = .ok (.if_icmp .lt 13, 3) := by decide +kernel
theorem d_B_makeQuotient_17 : decode c_B_makeQuotient 17 = .ok (.aload_n 0, 1) := by decide +kernel
theorem d_B_makeQuotient_18 : decode c_B_makeQuotient 18 = .ok (.getfield 20, 3) := by decide +kernel
theorem d_B_makeQuotient_21 : decode c_B_makeQuotient 21 = .ok (.getfield 50, 3) := by decide +kernel
theorem d_B_makeQuotient_24 : decode c_B_makeQuotient 24 = .ok (.ifCond .ne 12, 3) := by decide +kernel
theorem d_B_makeQuotient_27 : decode c_B_makeQuotient 27 = .ok (.aload_n 0, 1) := by decide +kernel
theorem d_B_makeQuotient_28 : decode c_B_makeQuotient 28 = .ok (.getfield 23, 3) := by decide +kernel
theorem d_B_makeQuotient_31 : decode c_B_makeQuotient 31 = .ok (.iconst 0, 1) := by decide +kernel
theorem d_B_makeQuotient_32 : decode c_B_makeQuotient 32 = .ok (.invokevirtual 54, 3) := by decide +kernel
theorem d_B_makeQuotient_35 : decode c_B_makeQuotient 35 = .ok (.return_, 1) := by decide +kernel
theorem d_B_makeQuotient_36 : decode c_B_makeQuotient 36 = .ok (.bipush 30, 2) := by decide +kernel
theorem d_B_makeQuotient_38 : decode c_B_makeQuotient 38 = .ok (.aload_n 0, 1) := by decide +kernel
theorem d_B_makeQuotient_39 : decode c_B_makeQuotient 39 = .ok (.getfield 20, 3) := by decide +kernel
theorem d_B_makeQuotient_42 : decode c_B_makeQuotient 42 = .ok (.getfield 57, 3) := by decide +kernel
theorem d_B_makeQuotient_45 : decode c_B_makeQuotient 45 = .ok (.aload_n 0, 1) := by decide +kernel
theorem d_B_makeQuotient_46 : decode c_B_makeQuotient 46 = .ok (.getfield 20, 3) := by decide +kernel
theorem d_B_makeQuotient_49 : decode c_B_makeQuotient 49 = .ok (.getfield 50, 3) := by decide +kernel
theorem d_B_makeQuotient_52 : decode c_B_makeQuotient 52 = .ok (.iconst 1, 1) := by decide +kernel
theorem d_B_makeQuotient_53 : decode c_B_makeQuotient 53 = .ok (.isub, 1) := by decide +kernel
theorem d_B_makeQuotient_54 : decode c_B_makeQuotient 54 = .ok (.iaload, 1) := by decide +kernel
theorem d_B_makeQuotient_55 : decode c_B_makeQuotient 55 = .ok (.invokestatic 61, 3) := by decide +kernel
theorem d_B_makeQuotient_58 : decode c_B_makeQuotient 58 = .ok (.isub, 1) := by decide +kernel
theorem d_B_makeQuotient_59 : decode c_B_makeQuotient 59 = .ok (.istore_n 1, 1) := by decide +kernel
theorem d_B_makeQuotient_60 : decode c_B_makeQuotient 60 = .ok (.aload_n 0, 1) := by decide +kernel
theorem d_B_makeQuotient_61 : decode c_B_makeQuotient 61 = .ok (.getfield 14, 3) := by decide +kernel
theorem d_B_makeQuotient_64 : decode c_B_makeQuotient 64 = .ok (.iload_n 1, 1) := by decide +kernel
theorem d_B_makeQuotient_65 : decode c_B_makeQuotient 65 = .ok (.invokevirtual 65, 3) := by decide +kernel
theorem d_B_makeQuotient_68 : decode c_B_makeQuotient 68 = .ok (.aload_n 0, 1) := by decide +kernel
theorem d_B_makeQuotient_69 : decode c_B_makeQuotient 69 = .ok (.getfield 20, 3) := by decide +kernel
theorem d_B_makeQuotient_72 : decode c_B_makeQuotient 72 = .ok (.iload_n 1, 1) := by decide +kernel
theorem d_B_makeQuotient_73 : decode c_B_makeQuotient 73 = .ok (.invokevirtual 65, 3) := by decide +kernel
theorem d_B_makeQuotient_76 : decode c_B_makeQuotient 76 = .ok (.aload_n 0, 1) := by decide +kernel
theorem d_B_makeQuotient_77 : decode c_B_makeQuotient 77 = .ok (.getfield 14, 3) := by decide +kernel
theorem d_B_makeQuotient_80 : decode c_B_makeQuotient 80 = .ok (.getfield 50, 3) := by decide +kernel
theorem d_B_makeQuotient_83 : decode c_B_makeQuotient 83 = .ok (.aload_n 0, 1) := by decide +kernel
theorem d_B_makeQuotient_84 : decode c_B_makeQuotient 84 = .ok (.getfield 20, 3) := by decide +kernel
theorem d_B_makeQuotient_87 : decode c_B_makeQuotient 87 = .ok (.getfield 50, 3) := by decide +kernel
theorem d_B_makeQuotient_90 : decode c_B_makeQuotient 90 = .ok (.isub, 1) := by decide +kernel
theorem d_B_makeQuotient_91 : decode c_B_makeQuotient 91 = .ok (.istore_n 2, 1) := by decide +kernel
theorem d_B_makeQuotient_92 : decode c_B_makeQuotient 92 = .ok (.aload_n 0, 1) := by decide +kernel
theorem d_B_makeQuotient_93 : decode c_B_makeQuotient 93 = .ok (.getfield 14, 3) := by decide +kernel
theorem d_B_makeQuotient_96 : decode c_B_makeQuotient 96 = .ok (.invokevirtual 68, 3) := by decide +kernel
theorem d_B_makeQuotient_99 : decode c_B_makeQuotient 99 = .ok (.aload_n 0, 1) := by decide +kernel
theorem d_B_makeQuotient_100 : decode c_B_makeQuotient 100 = .ok (.getfield 23, 3) := by decide +kernel
theorem d_B_makeQuotient_103 : decode c_B_makeQuotient 103 = .ok (.iload_n 2, 1) := by decide +kernel
theorem d_B_makeQuotient_104 : decode c_B_makeQuotient 104 = .ok (.iconst 1, 1) := by decide +kernel
theorem d_B_makeQuotient_105 : decode c_B_makeQuotient 105 = .ok (.iadd, 1) := by decide +kernel
theorem d_B_makeQuotient_106 : decode c_B_makeQuotient 106 = .ok (.invokevirtual 54, 3) := by decide +kernel
theorem d_B_makeQuotient_109 : decode c_B_makeQuotient 109 = .ok (.iload_n 2, 1) := by decide +kernel
theorem d_B_makeQuotient_110 : decode c_B_makeQuotient 110 = .ok (.istore_n 3, 1) := by decide +kernel
theorem d_B_makeQuotient_111 : decode c_B_makeQuotient 111 = .ok (.iload_n 3, 1) := by decide +kernel
theorem d_B_makeQuotient_112 : decode c_B_makeQuotient 112 = .ok (.ifCond .lt 23, 3) := by decide +kernel
theorem d_B_makeQuotient_115 : decode c_B_makeQuotient 115 = .ok (.aload_n 0, 1) := by decide +kernel
theorem d_B_makeQuotient_116 : decode c_B_makeQuotient 116 = .ok (.getfield 23, 3) := by decide +kernel
theorem d_B_makeQuotient_119 : decode c_B_makeQuotient 119 = .ok (.getfield 57, 3) := by decide +kernel
theorem d_B_makeQuotient_122 : decode c_B_makeQuotient 122 = .ok (.iload_n 3, 1) := by decide +kernel
theorem d_B_makeQuotient_123 : decode c_B_makeQuotient 123 = .ok (.aload_n 0, 1) := by decide +kernel
theorem d_B_makeQuotient_124 : decode c_B_makeQuotient 124 = .ok (.iload_n 3, 1) := by decide +kernel
theorem d_B_makeQuotient_125 : decode c_B_makeQuotient 125 = .ok (.invokevirtual 71, 3) := by decide +kernel
theorem d_B_makeQuotient_128 : decode c_B_makeQuotient 128 = .ok (.iastore, 1) := by decide +kernel
theorem d_B_makeQuotient_129 : decode c_B_makeQuotient 129 = .ok (.iinc 3 (-1), 3) := by decide +kernel
theorem d_B_makeQuotient_132 : decode c_B_makeQuotient 132 = .ok (.goto (-21), 3) := by decide +kernel
theorem d_B_makeQuotient_135 : decode c_B_makeQuotient 135 = .ok (.aload_n 0, 1) := by decide +kernel
theorem d_B_makeQuotient_136 : decode c_B_makeQuotient 136 = .ok (.getfield 23, 3) := by decide +kernel
theorem d_B_makeQuotient_139 : decode c_B_makeQuotient 139 = .ok (.invokevirtual 74, 3) := by decide +kernel
theorem d_B_makeQuotient_142 : decode c_B_makeQuotient 142 = .ok (.aload_n 0, 1) := by decide +kernel
theorem d_B_makeQuotient_143 : decode c_B_makeQuotient 143 = .ok (.getfield 14, 3) := by decide +kernel
theorem d_B_makeQuotient_146 : decode c_B_makeQuotient 146 = .ok (.aload_n 0, 1) := by decide +kernel
theorem d_B_makeQuotient_147 : decode c_B_makeQuotient 147 = .ok (.getfield 20, 3) := by decide +kernel
theorem d_B_makeQuotient_150 : decode c_B_makeQuotient 150 = .ok (.getfield 50, 3) := by decide +kernel
theorem d_B_makeQuotient_153 : decode c_B_makeQuotient 153 = .ok (.putfield 50, 3) := by decide +kernel
theorem d_B_makeQuotient_156 : decode c_B_makeQuotient 156 = .ok (.aload_n 0, 1) := by decide +kernel
theorem d_B_makeQuotient_157 : decode c_B_makeQuotient 157 = .ok (.getfield 14, 3) := by decide +kernel
theorem d_B_makeQuotient_160 : decode c_B_makeQuotient 160 = .ok (.invokevirtual 74, 3) := by decide +kernel
theorem d_B_makeQuotient_163 : decode c_B_makeQuotient 163 = .ok (.aload_n 0, 1) := by decide +kernel
theorem d_B_makeQuotient_164 : decode c_B_makeQuotient 164 = .ok (.getfield 14, 3) := by decide +kernel
theorem d_B_makeQuotient_167 : decode c_B_makeQuotient 167 = .ok (.iload_n 1, 1) := by decide +kernel
theorem d_B_makeQuotient_168 : decode c_B_makeQuotient 168 = .ok (.invokevirtual 47, 3) := by decide +kernel
theorem d_B_makeQuotient_171 : decode c_B_makeQuotient 171 = .ok (.return_, 1) := by decide +kernel
theorem d_B_quotientLimb_0 : decode c_B_quotientLimb 0 = .ok (.aload_n 0, 1) := by decide +kernel
theorem d_B_quotientLimb_1 : decode c_B_quotientLimb 1 = .ok (.getfield 20, 3) := by decide +kernel
theorem d_B_quotientLimb_4 : decode c_B_quotientLimb 4 = .ok (.getfield 50, 3) := by decide +kernel
theorem d_B_quotientLimb_7 : decode c_B_quotientLimb 7 = .ok (.istore_n 2, 1) := by decide +kernel
theorem d_B_quotientLimb_8 : decode c_B_quotientLimb 8 = .ok (.aload_n 0, 1) := by decide +kernel
theorem d_B_quotientLimb_9 : decode c_B_quotientLimb 9 = .ok (.getfield 14, 3) := by decide +kernel
theorem d_B_quotientLimb_12 : decode c_B_quotientLimb 12 = .ok (.getfield 57, 3) := by decide +kernel
theorem d_B_quotientLimb_15 : decode c_B_quotientLimb 15 = .ok (.iload_n 1, 1) := by decide +kernel
theorem d_B_quotientLimb_16 : decode c_B_quotientLimb 16 = .ok (.iload_n 2, 1) := by decide +kernel
theorem d_B_quotientLimb_17 : decode c_B_quotientLimb 17 = .ok (.iadd, 1) := by decide +kernel
theorem d_B_quotientLimb_18 : decode c_B_quotientLimb 18 = .ok (.iaload, 1) := by decide +kernel
theorem d_B_quotientLimb_19 : decode c_B_quotientLimb 19 = .ok (.i2l, 1) := by decide +kernel
theorem d_B_quotientLimb_20 : decode c_B_quotientLimb 20 = .ok (.bipush 30, 2) := by decide +kernel
theorem d_B_quotientLimb_22 : decode c_B_quotientLimb 22 = .ok (.lshl, 1) := by decide +kernel
theorem d_B_quotientLimb_23 : decode c_B_quotientLimb 23 = .ok (.aload_n 0, 1) := by decide +kernel
theorem d_B_quotientLimb_24 : decode c_B_quotientLimb 24 = .ok (.getfield 14, 3) := by decide +kernel
theorem d_B_quotientLimb_27 : decode c_B_quotientLimb 27 = .ok (.getfield 57, 3) := by decide +kernel
theorem d_B_quotientLimb_30 : decode c_B_quotientLimb 30 = .ok (.iload_n 1, 1) := by decide +kernel
theorem d_B_quotientLimb_31 : decode c_B_quotientLimb 31 = .ok (.iload_n 2, 1) := by decide +kernel
theorem d_B_quotientLimb_32 : decode c_B_quotientLimb 32 = .ok (.iadd, 1) := by decide +kernel
theorem d_B_quotientLimb_33 : decode c_B_quotientLimb 33 = .ok (.iconst 1, 1) := by decide +kernel
theorem d_B_quotientLimb_34 : decode c_B_quotientLimb 34 = .ok (.isub, 1) := by decide +kernel
theorem d_B_quotientLimb_35 : decode c_B_quotientLimb 35 = .ok (.iaload, 1) := by decide +kernel
theorem d_B_quotientLimb_36 : decode c_B_quotientLimb 36 = .ok (.i2l, 1) := by decide +kernel
theorem d_B_quotientLimb_37 : decode c_B_quotientLimb 37 = .ok (.lor, 1) := by decide +kernel
theorem d_B_quotientLimb_38 : decode c_B_quotientLimb 38 = .ok (.lstore_n 3, 1) := by decide +kernel
theorem d_B_quotientLimb_39 : decode c_B_quotientLimb 39 = .ok (.ldc2_w 77, 3) := by decide +kernel
theorem d_B_quotientLimb_42 : decode c_B_quotientLimb 42 = .ok (.lload_n 3, 1) := by decide +kernel
theorem d_B_quotientLimb_43 : decode c_B_quotientLimb 43 = .ok (.aload_n 0, 1) := by decide +kernel
theorem d_B_quotientLimb_44 : decode c_B_quotientLimb 44 = .ok (.getfield 20, 3) := by decide +kernel
theorem d_B_quotientLimb_47 : decode c_B_quotientLimb 47 = .ok (.getfield 57, 3) := by decide +kernel
theorem d_B_quotientLimb_50 : decode c_B_quotientLimb 50 = .ok (.iload_n 2, 1) := by decide +kernel
theorem d_B_quotientLimb_51 : decode c_B_quotientLimb 51 = .ok (.iconst 1, 1) := by decide +kernel
theorem d_B_quotientLimb_52 : decode c_B_quotientLimb 52 = .ok (.isub, 1) := by decide +kernel
theorem d_B_quotientLimb_53 : decode c_B_quotientLimb 53 = .ok (.iaload, 1) := by decide +kernel
theorem d_B_quotientLimb_54 : decode c_B_quotientLimb 54 = .ok (.i2l, 1) := by decide +kernel
theorem d_B_quotientLimb_55 : decode c_B_quotientLimb 55 = .ok (.ldiv, 1) := by decide +kernel
theorem d_B_quotientLimb_56 : decode c_B_quotientLimb 56 = .ok (.invokestatic 79, 3) := by decide +kernel
theorem d_B_quotientLimb_59 : decode c_B_quotientLimb 59 = .ok (.lstore 5, 2) := by decide +kernel
theorem d_B_quotientLimb_61 : decode c_B_quotientLimb 61 = .ok (.aload_n 0, 1) := by decide +kernel
theorem d_B_quotientLimb_62 : decode c_B_quotientLimb 62 = .ok (.getfield 14, 3) := by decide +kernel
theorem d_B_quotientLimb_65 : decode c_B_quotientLimb 65 = .ok (.iload_n 1, 1) := by decide +kernel
theorem d_B_quotientLimb_66 : decode c_B_quotientLimb 66 = .ok (.aload_n 0, 1) := by decide +kernel
theorem d_B_quotientLimb_67 : decode c_B_quotientLimb 67 = .ok (.getfield 20, 3) := by decide +kernel
theorem d_B_quotientLimb_70 : decode c_B_quotientLimb 70 = .ok (.iconst 0, 1) := by decide +kernel
theorem d_B_quotientLimb_71 : decode c_B_quotientLimb 71 = .ok (.iload_n 2, 1) := by decide +kernel
theorem d_B_quotientLimb_72 : decode c_B_quotientLimb 72 = .ok (.lload 5, 2) := by decide +kernel
theorem d_B_quotientLimb_74 : decode c_B_quotientLimb 74 = .ok (.invokevirtual 85, 3) := by decide +kernel
theorem d_B_quotientLimb_77 : decode c_B_quotientLimb 77 = .ok (.istore 7, 2) := by decide +kernel
theorem d_B_quotientLimb_79 : decode c_B_quotientLimb 79 = .ok (.iconst 0, 1) := by decide +kernel
theorem d_B_quotientLimb_80 : decode c_B_quotientLimb 80 = .ok (.istore 8, 2) := by decide +kernel
theorem d_B_quotientLimb_82 : decode c_B_quotientLimb 82 = .ok (.iload 7, 2) := by decide +kernel
theorem d_B_quotientLimb_84 : decode c_B_quotientLimb 84 = .ok (.ifCond .ge 43, 3) := by decide +kernel
theorem d_B_quotientLimb_87 : decode c_B_quotientLimb 87 = .ok (.iload 8, 2) := by decide +kernel
theorem d_B_quotientLimb_89 : decode c_B_quotientLimb 89 = .ok (.iconst 2, 1) := by decide +kernel
theorem d_B_quotientLimb_90 : decode c_B_quotientLimb 90 = .ok (.if_icmp .ge 37, 3) := by decide +kernel
theorem d_B_quotientLimb_93 : decode c_B_quotientLimb 93 = .ok (.lload 5, 2) := by decide +kernel
theorem d_B_quotientLimb_95 : decode c_B_quotientLimb 95 = .ok (.lconst 1, 1) := by decide +kernel
theorem d_B_quotientLimb_96 : decode c_B_quotientLimb 96 = .ok (.lsub, 1) := by decide +kernel
theorem d_B_quotientLimb_97 : decode c_B_quotientLimb 97 = .ok (.lstore 5, 2) := by decide +kernel
theorem d_B_quotientLimb_99 : decode c_B_quotientLimb 99 = .ok (.iload 7, 2) := by decide +kernel
theorem d_B_quotientLimb_101 : decode c_B_quotientLimb 101 = .ok (.aload_n 0, 1) := by decide +kernel
theorem d_B_quotientLimb_102 : decode c_B_quotientLimb 102 = .ok (.getfield 14, 3) := by decide +kernel
theorem d_B_quotientLimb_105 : decode c_B_quotientLimb 105 = .ok (.iload_n 1, 1) := by decide +kernel
theorem d_B_quotientLimb_106 : decode c_B_quotientLimb 106 = .ok (.aload_n 0, 1) := by decide +kernel
theorem d_B_quotientLimb_107 : decode c_B_quotientLimb 107 = .ok (.getfield 20, 3) := by decide +kernel
theorem d_B_quotientLimb_110 : decode c_B_quotientLimb 110 = .ok (.iconst 0, 1) := by decide +kernel
theorem d_B_quotientLimb_111 : decode c_B_quotientLimb 111 = .ok (.iload_n 2, 1) := by decide +kernel
theorem d_B_quotientLimb_112 : decode c_B_quotientLimb 112 = .ok (.ldc2_w 89, 3) := by decide +kernel
theorem d_B_quotientLimb_115 : decode c_B_quotientLimb 115 = .ok (.invokevirtual 85, 3) := by decide +kernel
theorem d_B_quotientLimb_118 : decode c_B_quotientLimb 118 = .ok (.iadd, 1) := by decide +kernel
theorem d_B_quotientLimb_119 : decode c_B_quotientLimb 119 = .ok (.istore 7, 2) := by decide +kernel
theorem d_B_quotientLimb_121 : decode c_B_quotientLimb 121 = .ok (.iinc 8 1, 3) := by decide +kernel
theorem d_B_quotientLimb_124 : decode c_B_quotientLimb 124 = .ok (.goto (-42), 3) := by decide +kernel
theorem d_B_quotientLimb_127 : decode c_B_quotientLimb 127 = .ok (.lload 5, 2) := by decide +kernel
theorem d_B_quotientLimb_129 : decode c_B_quotientLimb 129 = .ok (.l2i, 1) := by decide +kernel
theorem d_B_quotientLimb_130 : decode c_B_quotientLimb 130 = .ok (.ireturn, 1) := by decide +kernel
theorem d_T_shiftIn_0 : decode c_T_shiftIn 0 = .ok (.aload_n 0, 1) := by decide +kernel
theorem d_T_shiftIn_1 : decode c_T_shiftIn 1 = .ok (.getfield 40, 3) := by decide +kernel
theorem d_T_shiftIn_4 : decode c_T_shiftIn 4 = .ok (.ifCond .ne 4, 3) := by decide +kernel
theorem d_T_shiftIn_7 : decode c_T_shiftIn 7 = .ok (.return_, 1) := by decide +kernel
theorem d_T_shiftIn_8 : decode c_T_shiftIn 8 = .ok (.aload_n 0, 1) := by decide +kernel
theorem d_T_shiftIn_9 : decode c_T_shiftIn 9 = .ok (.getfield 28, 3) := by decide +kernel
theorem d_T_shiftIn_12 : decode c_T_shiftIn 12 = .ok (.aload_n 0, 1) := by decide +kernel
theorem d_T_shiftIn_13 : decode c_T_shiftIn 13 = .ok (.getfield 61, 3) := by decide +kernel
theorem d_T_shiftIn_16 : decode c_T_shiftIn 16 = .ok (.iaload, 1) := by decide +kernel
theorem d_T_shiftIn_17 : decode c_T_shiftIn 17 = .ok (.i2l, 1) := by decide +kernel
theorem d_T_shiftIn_18 : decode c_T_shiftIn 18 = .ok (.lstore_n 2, 1) := by decide +kernel
theorem d_T_shiftIn_19 : decode c_T_shiftIn 19 = .ok (.iload_n 1, 1) := by decide +kernel
theorem d_T_shiftIn_20 : decode c_T_shiftIn 20 = .ok (.i2l, 1) := by decide +kernel
theorem d_T_shiftIn_21 : decode c_T_shiftIn 21 = .ok (.lstore 4, 2) := by decide +kernel
theorem d_T_shiftIn_23 : decode c_T_shiftIn 23 = .ok (.iconst 0, 1) := by decide +kernel
theorem d_T_shiftIn_24 : decode c_T_shiftIn 24 = .ok (.istore 6, 2) := by decide +kernel
theorem d_T_shiftIn_26 : decode c_T_shiftIn 26 = .ok (.iload 6, 2) := by decide +kernel
theorem d_T_shiftIn_28 : decode c_T_shiftIn 28 = .ok (.aload_n 0, 1) := by decide +kernel
theorem d_T_shiftIn_29 : decode c_T_shiftIn 29 = .ok (.getfield 34, 3) := by decide +kernel
theorem d_T_shiftIn_32 : decode c_T_shiftIn 32 = .ok (.if_icmp .ge 49, 3) := by decide +kernel
theorem d_T_shiftIn_35 : decode c_T_shiftIn 35 = .ok (.aload_n 0, 1) := by decide +kernel
theorem d_T_shiftIn_36 : decode c_T_shiftIn 36 = .ok (.getfield 24, 3) := by decide +kernel
theorem d_T_shiftIn_39 : decode c_T_shiftIn 39 = .ok (.iload 6, 2) := by decide +kernel
theorem d_T_shiftIn_41 : decode c_T_shiftIn 41 = .ok (.iaload, 1) := by decide +kernel
theorem d_T_shiftIn_42 : decode c_T_shiftIn 42 = .ok (.i2l, 1) := by decide +kernel
theorem d_T_shiftIn_43 : decode c_T_shiftIn 43 = .ok (.aload_n 0, 1) := by decide +kernel
theorem d_T_shiftIn_44 : decode c_T_shiftIn 44 = .ok (.getfield 20, 3) := by decide +kernel
theorem d_T_shiftIn_47 : decode c_T_shiftIn 47 = .ok (.i2l, 1) := by decide +kernel
theorem d_T_shiftIn_48 : decode c_T_shiftIn 48 = .ok (.lmul, 1) := by decide +kernel
theorem d_T_shiftIn_49 : decode c_T_shiftIn 49 = .ok (.lload 4, 2) := by decide +kernel
theorem d_T_shiftIn_51 : decode c_T_shiftIn 51 = .ok (.ladd, 1) := by decide +kernel
theorem d_T_shiftIn_52 : decode c_T_shiftIn 52 = .ok (.lstore 7, 2) := by decide +kernel
theorem d_T_shiftIn_54 : decode c_T_shiftIn 54 = .ok (.lload 7, 2) := by decide +kernel
theorem d_T_shiftIn_56 : decode c_T_shiftIn 56 = .ok (.lload_n 2, 1) := by decide +kernel
theorem d_T_shiftIn_57 : decode c_T_shiftIn 57 = .ok (.ldiv, 1) := by decide +kernel
theorem d_T_shiftIn_58 : decode c_T_shiftIn 58 = .ok (.lstore 4, 2) := by decide +kernel
theorem d_T_shiftIn_60 : decode c_T_shiftIn 60 = .ok (.aload_n 0, 1) := by decide +kernel
theorem d_T_shiftIn_61 : decode c_T_shiftIn 61 = .ok (.getfield 24, 3) := by decide +kernel
theorem d_T_shiftIn_64 : decode c_T_shiftIn 64 = .ok (.iload 6, 2) := by decide +kernel
theorem d_T_shiftIn_66 : decode c_T_shiftIn 66 = .ok (.lload 7, 2) := by decide +kernel
theorem d_T_shiftIn_68 : decode c_T_shiftIn 68 = .ok (.lload 4, 2) := by decide +kernel
theorem d_T_shiftIn_70 : decode c_T_shiftIn 70 = .ok (.lload_n 2, 1) := by decide +kernel
theorem d_T_shiftIn_71 : decode c_T_shiftIn 71 = .ok (.lmul, 1) := by decide +kernel
theorem d_T_shiftIn_72 : decode c_T_shiftIn 72 = .ok (.lsub, 1) := by decide +kernel
theorem d_T_shiftIn_73 : decode c_T_shiftIn 73 = .ok (.l2i, 1) := by decide +kernel
theorem d_T_shiftIn_74 : decode c_T_shiftIn 74 = .ok (.iastore, 1) := by decide +kernel
theorem d_T_shiftIn_75 : decode c_T_shiftIn 75 = .ok (.iinc 6 1, 3) := by decide +kernel
theorem d_T_shiftIn_78 : decode c_T_shiftIn 78 = .ok (.goto (-52), 3) := by decide +kernel
theorem d_T_shiftIn_81 : decode c_T_shiftIn 81 = .ok (.lload 4, 2) := by decide +kernel
theorem d_T_shiftIn_83 : decode c_T_shiftIn 83 = .ok (.lconst 0, 1) := by decide +kernel
theorem d_T_shiftIn_84 : decode c_T_shiftIn 84 = .ok (.lcmp, 1) := by decide +kernel
theorem d_T_shiftIn_85 : decode c_T_shiftIn 85 = .ok (.ifCond .le 37, 3) := by decide +kernel
theorem d_T_shiftIn_88 : decode c_T_shiftIn 88 = .ok (.aload_n 0, 1) := by decide +kernel
theorem d_T_shiftIn_89 : decode c_T_shiftIn 89 = .ok (.getfield 34, 3) := by decide +kernel
theorem d_T_shiftIn_92 : decode c_T_shiftIn 92 = .ok (.aload_n 0, 1) := by decide +kernel
theorem d_T_shiftIn_93 : decode c_T_shiftIn 93 = .ok (.getfield 24, 3) := by decide +kernel
theorem d_T_shiftIn_96 : decode c_T_shiftIn 96 = .ok (.arraylength, 1) := by decide +kernel
theorem d_T_shiftIn_97 : decode c_T_shiftIn 97 = .ok (.if_icmp .ge 25, 3) := by decide +kernel
theorem d_T_shiftIn_100 : decode c_T_shiftIn 100 = .ok (.aload_n 0, 1) := by decide +kernel
theorem d_T_shiftIn_101 : decode c_T_shiftIn 101 = .ok (.getfield 24, 3) := by decide +kernel
theorem d_T_shiftIn_104 : decode c_T_shiftIn 104 = .ok (.aload_n 0, 1) := by decide +kernel
theorem d_T_shiftIn_105 : decode c_T_shiftIn 105 = .ok (.getfield 34, 3) := by decide +kernel
theorem d_T_shiftIn_108 : decode c_T_shiftIn 108 = .ok (.lload 4, 2) := by decide +kernel
theorem d_T_shiftIn_110 : decode c_T_shiftIn 110 = .ok (.l2i, 1) := by decide +kernel
theorem d_T_shiftIn_111 : decode c_T_shiftIn 111 = .ok (.iastore, 1) := by decide +kernel
theorem d_T_shiftIn_112 : decode c_T_shiftIn 112 = .ok (.aload_n 0, 1) := by decide +kernel
theorem d_T_shiftIn_113 : decode c_T_shiftIn 113 = .ok (.dup, 1) := by decide +kernel
theorem d_T_shiftIn_114 : decode c_T_shiftIn 114 = .ok (.getfield 34, 3) := by decide +kernel
theorem d_T_shiftIn_117 : decode c_T_shiftIn 117 = .ok (.iconst 1, 1) := by decide +kernel
theorem d_T_shiftIn_118 : decode c_T_shiftIn 118 = .ok (.iadd, 1) := by decide +kernel
theorem d_T_shiftIn_119 : decode c_T_shiftIn 119 = .ok (.putfield 34, 3) := by decide +kernel
theorem d_T_shiftIn_122 : decode c_T_shiftIn 122 = .ok (.aload_n 0, 1) := by decide +kernel
theorem d_T_shiftIn_123 : decode c_T_shiftIn 123 = .ok (.invokevirtual 77, 3) := by decide +kernel
theorem d_T_shiftIn_126 : decode c_T_shiftIn 126 = .ok (.return_, 1) := by decide +kernel
theorem d_T_digitAt_0 : decode c_T_digitAt 0 = .ok (.aload_n 0, 1) := by decide +kernel
theorem d_T_digitAt_1 : decode c_T_digitAt 1 = .ok (.getfield 37, 3) := by decide +kernel
theorem d_T_digitAt_4 : decode c_T_digitAt 4 = .ok (.iconst 1, 1) := by decide +kernel
theorem d_T_digitAt_5 : decode c_T_digitAt 5 = .ok (.isub, 1) := by decide +kernel
theorem d_T_digitAt_6 : decode c_T_digitAt 6 = .ok (.iload_n 1, 1) := by decide +kernel
theorem d_T_digitAt_7 : decode c_T_digitAt 7 = .ok (.isub, 1) := by decide +kernel
theorem d_T_digitAt_8 : decode c_T_digitAt 8 = .ok (.istore_n 2, 1) := by decide +kernel
theorem d_T_digitAt_9 : decode c_T_digitAt 9 = .ok (.iload_n 2, 1) := by decide +kernel
theorem d_T_digitAt_10 : decode c_T_digitAt 10 = .ok (.aload_n 0, 1) := by decide +kernel
theorem d_T_digitAt_11 : decode c_T_digitAt 11 = .ok (.getfield 61, 3) := by decide +kernel
theorem d_T_digitAt_14 : decode c_T_digitAt 14 = .ok (.idiv, 1) := by decide +kernel
theorem d_T_digitAt_15 : decode c_T_digitAt 15 = .ok (.istore_n 3, 1) := by decide +kernel
theorem d_T_digitAt_16 : decode c_T_digitAt 16 = .ok (.aload_n 0, 1) := by decide +kernel
theorem d_T_digitAt_17 : decode c_T_digitAt 17 = .ok (.getfield 24, 3) := by decide +kernel
theorem d_T_digitAt_20 : decode c_T_digitAt 20 = .ok (.iload_n 3, 1) := by decide +kernel
theorem d_T_digitAt_21 : decode c_T_digitAt 21 = .ok (.iaload, 1) := by decide +kernel
theorem d_T_digitAt_22 : decode c_T_digitAt 22 = .ok (.aload_n 0, 1) := by decide +kernel
theorem d_T_digitAt_23 : decode c_T_digitAt 23 = .ok (.getfield 28, 3) := by decide +kernel
theorem d_T_digitAt_26 : decode c_T_digitAt 26 = .ok (.iload_n 2, 1) := by decide +kernel
theorem d_T_digitAt_27 : decode c_T_digitAt 27 = .ok (.aload_n 0, 1) := by decide +kernel
theorem d_T_digitAt_28 : decode c_T_digitAt 28 = .ok (.getfield 61, 3) := by decide +kernel
theorem d_T_digitAt_31 : decode c_T_digitAt 31 = .ok (.irem, 1) := by decide +kernel
theorem d_T_digitAt_32 : decode c_T_digitAt 32 = .ok (.iaload, 1) := by decide +kernel
theorem d_T_digitAt_33 : decode c_T_digitAt 33 = .ok (.idiv, 1) := by decide +kernel
theorem d_T_digitAt_34 : decode c_T_digitAt 34 = .ok (.aload_n 0, 1) := by decide +kernel
theorem d_T_digitAt_35 : decode c_T_digitAt 35 = .ok (.getfield 20, 3) := by decide +kernel
theorem d_T_digitAt_38 : decode c_T_digitAt 38 = .ok (.irem, 1) := by decide +kernel
theorem d_T_digitAt_39 : decode c_T_digitAt 39 = .ok (.ireturn, 1) := by decide +kernel
theorem d_T_sumOfDigits_0 : decode c_T_sumOfDigits 0 = .ok (.iconst 0, 1) := by decide +kernel
theorem d_T_sumOfDigits_1 : decode c_T_sumOfDigits 1 = .ok (.istore_n 1, 1) := by decide +kernel
theorem d_T_sumOfDigits_2 : decode c_T_sumOfDigits 2 = .ok (.iconst 0, 1) := by decide +kernel
theorem d_T_sumOfDigits_3 : decode c_T_sumOfDigits 3 = .ok (.istore_n 2, 1) := by decide +kernel
theorem d_T_sumOfDigits_4 : decode c_T_sumOfDigits 4 = .ok (.iload_n 2, 1) := by decide +kernel
theorem d_T_sumOfDigits_5 : decode c_T_sumOfDigits 5 = .ok (.aload_n 0, 1) := by decide +kernel
theorem d_T_sumOfDigits_6 : decode c_T_sumOfDigits 6 = .ok (.getfield 34, 3) := by decide +kernel
theorem d_T_sumOfDigits_9 : decode c_T_sumOfDigits 9 = .ok (.if_icmp .ge 50, 3) := by decide +kernel
theorem d_T_sumOfDigits_12 : decode c_T_sumOfDigits 12 = .ok (.aload_n 0, 1) := by decide +kernel
theorem d_T_sumOfDigits_13 : decode c_T_sumOfDigits 13 = .ok (.getfield 24, 3) := by decide +kernel
theorem d_T_sumOfDigits_16 : decode c_T_sumOfDigits 16 = .ok (.iload_n 2, 1) := by decide +kernel
theorem d_T_sumOfDigits_17 : decode c_T_sumOfDigits 17 = .ok (.iaload, 1) := by decide +kernel
theorem d_T_sumOfDigits_18 : decode c_T_sumOfDigits 18 = .ok (.istore_n 3, 1) := by decide +kernel
theorem d_T_sumOfDigits_19 : decode c_T_sumOfDigits 19 = .ok (.iconst 0, 1) := by decide +kernel
theorem d_T_sumOfDigits_20 : decode c_T_sumOfDigits 20 = .ok (.istore 4, 2) := by decide +kernel
theorem d_T_sumOfDigits_22 : decode c_T_sumOfDigits 22 = .ok (.iload 4, 2) := by decide +kernel
theorem d_T_sumOfDigits_24 : decode c_T_sumOfDigits 24 = .ok (.aload_n 0, 1) := by decide +kernel
theorem d_T_sumOfDigits_25 : decode c_T_sumOfDigits 25 = .ok (.getfield 61, 3) := by decide +kernel
theorem d_T_sumOfDigits_28 : decode c_T_sumOfDigits 28 = .ok (.if_icmp .ge 25, 3) := by decide +kernel
theorem d_T_sumOfDigits_31 : decode c_T_sumOfDigits 31 = .ok (.iload_n 1, 1) := by decide +kernel
theorem d_T_sumOfDigits_32 : decode c_T_sumOfDigits 32 = .ok (.iload_n 3, 1) := by decide +kernel
theorem d_T_sumOfDigits_33 : decode c_T_sumOfDigits 33 = .ok (.aload_n 0, 1) := by decide +kernel
theorem d_T_sumOfDigits_34 : decode c_T_sumOfDigits 34 = .ok (.getfield 20, 3) := by decide +kernel
theorem d_T_sumOfDigits_37 : decode c_T_sumOfDigits 37 = .ok (.irem, 1) := by decide +kernel
theorem d_T_sumOfDigits_38 : decode c_T_sumOfDigits 38 = .ok (.iadd, 1) := by decide +kernel
theorem d_T_sumOfDigits_39 : decode c_T_sumOfDigits 39 = .ok (.istore_n 1, 1) := by decide +kernel
theorem d_T_sumOfDigits_40 : decode c_T_sumOfDigits 40 = .ok (.iload_n 3, 1) := by decide +kernel
theorem d_T_sumOfDigits_41 : decode c_T_sumOfDigits 41 = .ok (.aload_n 0, 1) := by decide +kernel
theorem d_T_sumOfDigits_42 : decode c_T_sumOfDigits 42 = .ok (.getfield 20, 3) := by decide +kernel
theorem d_T_sumOfDigits_45 : decode c_T_sumOfDigits 45 = .ok (.idiv, 1) := by decide +kernel
theorem d_T_sumOfDigits_46 : decode c_T_sumOfDigits 46 = .ok (.istore_n 3, 1) := by decide +kernel
theorem d_T_sumOfDigits_47 : decode c_T_sumOfDigits 47 = .ok (.iinc 4 1, 3) := by decide +kernel
theorem d_T_sumOfDigits_50 : decode c_T_sumOfDigits 50 = .ok (.goto (-28), 3) := by decide +kernel
theorem d_T_sumOfDigits_53 : decode c_T_sumOfDigits 53 = .ok (.iinc 2 1, 3) := by decide +kernel
theorem d_T_sumOfDigits_56 : decode c_T_sumOfDigits 56 = .ok (.goto (-52), 3) := by decide +kernel
theorem d_T_sumOfDigits_59 : decode c_T_sumOfDigits 59 = .ok (.iload_n 1, 1) := by decide +kernel
theorem d_T_sumOfDigits_60 : decode c_T_sumOfDigits 60 = .ok (.ireturn, 1) := by decide +kernel
