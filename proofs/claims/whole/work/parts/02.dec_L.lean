theorem d_L_mill_0 : decode c_L_mill 0 = .ok (.aload 4, 2) := by decide +kernel
theorem d_L_mill_2 : decode c_L_mill 2 = .ok (.iconst 0, 1) := by decide +kernel
theorem d_L_mill_3 : decode c_L_mill 3 = .ok (.aload_n 0, 1) := by decide +kernel
theorem d_L_mill_4 : decode c_L_mill 4 = .ok (.iload_n 1, 1) := by decide +kernel
theorem d_L_mill_5 : decode c_L_mill 5 = .ok (.iload_n 2, 1) := by decide +kernel
theorem d_L_mill_6 : decode c_L_mill 6 = .ok (.iload_n 3, 1) := by decide +kernel
theorem d_L_mill_7 : decode c_L_mill 7 = .ok (.invokevirtual 7, 3) := by decide +kernel
theorem d_L_mill_10 : decode c_L_mill 10 = .ok (.i2l, 1) := by decide +kernel
theorem d_L_mill_11 : decode c_L_mill 11 = .ok (.lastore, 1) := by decide +kernel
theorem d_L_mill_12 : decode c_L_mill 12 = .ok (.goto 11, 3) := by decide +kernel
theorem d_L_mill_15 : decode c_L_mill 15 = .ok (.astore 5, 2) := by decide +kernel
theorem d_L_mill_17 : decode c_L_mill 17 = .ok (.iconst 1, 1) := by decide +kernel
theorem d_L_mill_18 : decode c_L_mill 18 = .ok (.ireturn, 1) := by decide +kernel
theorem d_L_mill_19 : decode c_L_mill 19 = .ok (.astore 5, 2) := by decide +kernel
theorem d_L_mill_21 : decode c_L_mill 21 = .ok (.iconst 2, 1) := by decide +kernel
theorem d_L_mill_22 : decode c_L_mill 22 = .ok (.ireturn, 1) := by decide +kernel
theorem d_L_mill_23 : decode c_L_mill 23 = .ok (.iconst 0, 1) := by decide +kernel
theorem d_L_mill_24 : decode c_L_mill 24 = .ok (.ireturn, 1) := by decide +kernel
theorem d_L_root_0 : decode c_L_root 0 = .ok (.aload 5, 2) := by decide +kernel
theorem d_L_root_2 : decode c_L_root 2 = .ok (.iconst 0, 1) := by decide +kernel
theorem d_L_root_3 : decode c_L_root 3 = .ok (.aload_n 0, 1) := by decide +kernel
theorem d_L_root_4 : decode c_L_root 4 = .ok (.lload_n 1, 1) := by decide +kernel
theorem d_L_root_5 : decode c_L_root 5 = .ok (.iload_n 3, 1) := by decide +kernel
theorem d_L_root_6 : decode c_L_root 6 = .ok (.iload 4, 2) := by decide +kernel
theorem d_L_root_8 : decode c_L_root 8 = .ok (.invokevirtual 17, 3) := by decide +kernel
theorem d_L_root_11 : decode c_L_root 11 = .ok (.i2l, 1) := by decide +kernel
theorem d_L_root_12 : decode c_L_root 12 = .ok (.lastore, 1) := by decide +kernel
theorem d_L_root_13 : decode c_L_root 13 = .ok (.goto 11, 3) := by decide +kernel
theorem d_L_root_16 : decode c_L_root 16 = .ok (.astore 6, 2) := by decide +kernel
theorem d_L_root_18 : decode c_L_root 18 = .ok (.iconst 1, 1) := by decide +kernel
theorem d_L_root_19 : decode c_L_root 19 = .ok (.ireturn, 1) := by decide +kernel
theorem d_L_root_20 : decode c_L_root 20 = .ok (.astore 6, 2) := by decide +kernel
theorem d_L_root_22 : decode c_L_root 22 = .ok (.iconst 2, 1) := by decide +kernel
theorem d_L_root_23 : decode c_L_root 23 = .ok (.ireturn, 1) := by decide +kernel
theorem d_L_root_24 : decode c_L_root 24 = .ok (.iconst 0, 1) := by decide +kernel
theorem d_L_root_25 : decode c_L_root 25 = .ok (.ireturn, 1) := by decide +kernel
theorem d_L_over_0 : decode c_L_over 0 = .ok (.aload 7, 2) := by decide +kernel
theorem d_L_over_2 : decode c_L_over 2 = .ok (.iconst 0, 1) := by decide +kernel
theorem d_L_over_3 : decode c_L_over 3 = .ok (.aload_n 0, 1) := by decide +kernel
theorem d_L_over_4 : decode c_L_over 4 = .ok (.lload_n 1, 1) := by decide +kernel
theorem d_L_over_5 : decode c_L_over 5 = .ok (.lload_n 3, 1) := by decide +kernel
theorem d_L_over_6 : decode c_L_over 6 = .ok (.iload 5, 2) := by decide +kernel
theorem d_L_over_8 : decode c_L_over 8 = .ok (.iload 6, 2) := by decide +kernel
theorem d_L_over_10 : decode c_L_over 10 = .ok (.invokevirtual 21, 3) := by decide +kernel
theorem d_L_over_13 : decode c_L_over 13 = .ok (.i2l, 1) := by decide +kernel
theorem d_L_over_14 : decode c_L_over 14 = .ok (.lastore, 1) := by decide +kernel
theorem d_L_over_15 : decode c_L_over 15 = .ok (.goto 11, 3) := by decide +kernel
theorem d_L_over_18 : decode c_L_over 18 = .ok (.astore 8, 2) := by decide +kernel
theorem d_L_over_20 : decode c_L_over 20 = .ok (.iconst 1, 1) := by decide +kernel
theorem d_L_over_21 : decode c_L_over 21 = .ok (.ireturn, 1) := by decide +kernel
theorem d_L_over_22 : decode c_L_over 22 = .ok (.astore 8, 2) := by decide +kernel
theorem d_L_over_24 : decode c_L_over 24 = .ok (.iconst 2, 1) := by decide +kernel
theorem d_L_over_25 : decode c_L_over 25 = .ok (.ireturn, 1) := by decide +kernel
theorem d_L_over_26 : decode c_L_over 26 = .ok (.iconst 0, 1) := by decide +kernel
theorem d_L_over_27 : decode c_L_over 27 = .ok (.ireturn, 1) := by decide +kernel
theorem d_L_number_0 : decode c_L_number 0 = .ok (.aload 4, 2) := by decide +kernel
theorem d_L_number_2 : decode c_L_number 2 = .ok (.iconst 0, 1) := by decide +kernel
theorem d_L_number_3 : decode c_L_number 3 = .ok (.aload_n 0, 1) := by decide +kernel
theorem d_L_number_4 : decode c_L_number 4 = .ok (.lload_n 1, 1) := by decide +kernel
theorem d_L_number_5 : decode c_L_number 5 = .ok (.iload_n 3, 1) := by decide +kernel
theorem d_L_number_6 : decode c_L_number 6 = .ok (.invokevirtual 25, 3) := by decide +kernel
theorem d_L_number_9 : decode c_L_number 9 = .ok (.i2l, 1) := by decide +kernel
theorem d_L_number_10 : decode c_L_number 10 = .ok (.lastore, 1) := by decide +kernel
theorem d_L_number_11 : decode c_L_number 11 = .ok (.goto 7, 3) := by decide +kernel
theorem d_L_number_14 : decode c_L_number 14 = .ok (.astore 5, 2) := by decide +kernel
theorem d_L_number_16 : decode c_L_number 16 = .ok (.iconst 1, 1) := by decide +kernel
theorem d_L_number_17 : decode c_L_number 17 = .ok (.ireturn, 1) := by decide +kernel
theorem d_L_number_18 : decode c_L_number 18 = .ok (.iconst 0, 1) := by decide +kernel
theorem d_L_number_19 : decode c_L_number 19 = .ok (.ireturn, 1) := by decide +kernel
theorem d_L_push_0 : decode c_L_push 0 = .ok (.aload_n 2, 1) := by decide +kernel
theorem d_L_push_1 : decode c_L_push 1 = .ok (.iconst 0, 1) := by decide +kernel
theorem d_L_push_2 : decode c_L_push 2 = .ok (.aload_n 0, 1) := by decide +kernel
theorem d_L_push_3 : decode c_L_push 3 = .ok (.iload_n 1, 1) := by decide +kernel
theorem d_L_push_4 : decode c_L_push 4 = .ok (.invokevirtual 29, 3) := by decide +kernel
theorem d_L_push_7 : decode c_L_push 7 = .ok (.i2l, 1) := by decide +kernel
theorem d_L_push_8 : decode c_L_push 8 = .ok (.lastore, 1) := by decide +kernel
theorem d_L_push_9 : decode c_L_push 9 = .ok (.goto 9, 3) := by decide +kernel
theorem d_L_push_12 : decode c_L_push 12 = .ok (.astore_n 3, 1) := by decide +kernel
theorem d_L_push_13 : decode c_L_push 13 = .ok (.iconst 1, 1) := by decide +kernel
theorem d_L_push_14 : decode c_L_push 14 = .ok (.ireturn, 1) := by decide +kernel
theorem d_L_push_15 : decode c_L_push 15 = .ok (.astore_n 3, 1) := by decide +kernel
theorem d_L_push_16 : decode c_L_push 16 = .ok (.iconst 2, 1) := by decide +kernel
theorem d_L_push_17 : decode c_L_push 17 = .ok (.ireturn, 1) := by decide +kernel
theorem d_L_push_18 : decode c_L_push 18 = .ok (.iconst 0, 1) := by decide +kernel
theorem d_L_push_19 : decode c_L_push 19 = .ok (.ireturn, 1) := by decide +kernel
theorem d_L_add_0 : decode c_L_add 0 = .ok (.aload_n 1, 1) := by decide +kernel
theorem d_L_add_1 : decode c_L_add 1 = .ok (.iconst 0, 1) := by decide +kernel
theorem d_L_add_2 : decode c_L_add 2 = .ok (.aload_n 0, 1) := by decide +kernel
theorem d_L_add_3 : decode c_L_add 3 = .ok (.invokevirtual 33, 3) := by decide +kernel
theorem d_L_add_6 : decode c_L_add 6 = .ok (.i2l, 1) := by decide +kernel
theorem d_L_add_7 : decode c_L_add 7 = .ok (.lastore, 1) := by decide +kernel
theorem d_L_add_8 : decode c_L_add 8 = .ok (.goto 6, 3) := by decide +kernel
theorem d_L_add_11 : decode c_L_add 11 = .ok (.astore_n 2, 1) := by decide +kernel
theorem d_L_add_12 : decode c_L_add 12 = .ok (.iconst 1, 1) := by decide +kernel
theorem d_L_add_13 : decode c_L_add 13 = .ok (.ireturn, 1) := by decide +kernel
theorem d_L_add_14 : decode c_L_add 14 = .ok (.iconst 0, 1) := by decide +kernel
theorem d_L_add_15 : decode c_L_add 15 = .ok (.ireturn, 1) := by decide +kernel
theorem d_L_subtract_0 : decode c_L_subtract 0 = .ok (.aload_n 1, 1) := by decide +kernel
theorem d_L_subtract_1 : decode c_L_subtract 1 = .ok (.iconst 0, 1) := by decide +kernel
theorem d_L_subtract_2 : decode c_L_subtract 2 = .ok (.aload_n 0, 1) := by decide +kernel
theorem d_L_subtract_3 : decode c_L_subtract 3 = .ok (.invokevirtual 37, 3) := by decide +kernel
theorem d_L_subtract_6 : decode c_L_subtract 6 = .ok (.i2l, 1) := by decide +kernel
theorem d_L_subtract_7 : decode c_L_subtract 7 = .ok (.lastore, 1) := by decide +kernel
theorem d_L_subtract_8 : decode c_L_subtract 8 = .ok (.goto 6, 3) := by decide +kernel
theorem d_L_subtract_11 : decode c_L_subtract 11 = .ok (.astore_n 2, 1) := by decide +kernel
theorem d_L_subtract_12 : decode c_L_subtract 12 = .ok (.iconst 1, 1) := by decide +kernel
theorem d_L_subtract_13 : decode c_L_subtract 13 = .ok (.ireturn, 1) := by decide +kernel
theorem d_L_subtract_14 : decode c_L_subtract 14 = .ok (.iconst 0, 1) := by decide +kernel
theorem d_L_subtract_15 : decode c_L_subtract 15 = .ok (.ireturn, 1) := by decide +kernel
theorem d_L_times_0 : decode c_L_times 0 = .ok (.aload_n 1, 1) := by decide +kernel
theorem d_L_times_1 : decode c_L_times 1 = .ok (.iconst 0, 1) := by decide +kernel
theorem d_L_times_2 : decode c_L_times 2 = .ok (.aload_n 0, 1) := by decide +kernel
theorem d_L_times_3 : decode c_L_times 3 = .ok (.invokevirtual 42, 3) := by decide +kernel
theorem d_L_times_6 : decode c_L_times 6 = .ok (.i2l, 1) := by decide +kernel
theorem d_L_times_7 : decode c_L_times 7 = .ok (.lastore, 1) := by decide +kernel
theorem d_L_times_8 : decode c_L_times 8 = .ok (.goto 6, 3) := by decide +kernel
theorem d_L_times_11 : decode c_L_times 11 = .ok (.astore_n 2, 1) := by decide +kernel
theorem d_L_times_12 : decode c_L_times 12 = .ok (.iconst 1, 1) := by decide +kernel
theorem d_L_times_13 : decode c_L_times 13 = .ok (.ireturn, 1) := by decide +kernel
theorem d_L_times_14 : decode c_L_times 14 = .ok (.iconst 0, 1) := by decide +kernel
theorem d_L_times_15 : decode c_L_times 15 = .ok (.ireturn, 1) := by decide +kernel
theorem d_L_divide_0 : decode c_L_divide 0 = .ok (.aload_n 1, 1) := by decide +kernel
theorem d_L_divide_1 : decode c_L_divide 1 = .ok (.iconst 0, 1) := by decide +kernel
theorem d_L_divide_2 : decode c_L_divide 2 = .ok (.aload_n 0, 1) := by decide +kernel
theorem d_L_divide_3 : decode c_L_divide 3 = .ok (.invokevirtual 45, 3) := by decide +kernel
theorem d_L_divide_6 : decode c_L_divide 6 = .ok (.i2l, 1) := by decide +kernel
theorem d_L_divide_7 : decode c_L_divide 7 = .ok (.lastore, 1) := by decide +kernel
theorem d_L_divide_8 : decode c_L_divide 8 = .ok (.goto 6, 3) := by decide +kernel
theorem d_L_divide_11 : decode c_L_divide 11 = .ok (.astore_n 2, 1) := by decide +kernel
theorem d_L_divide_12 : decode c_L_divide 12 = .ok (.iconst 1, 1) := by decide +kernel
theorem d_L_divide_13 : decode c_L_divide 13 = .ok (.ireturn, 1) := by decide +kernel
theorem d_L_divide_14 : decode c_L_divide 14 = .ok (.iconst 0, 1) := by decide +kernel
theorem d_L_divide_15 : decode c_L_divide 15 = .ok (.ireturn, 1) := by decide +kernel
theorem d_L_convert_0 : decode c_L_convert 0 = .ok (.aload_n 2, 1) := by decide +kernel
theorem d_L_convert_1 : decode c_L_convert 1 = .ok (.iconst 0, 1) := by decide +kernel
theorem d_L_convert_2 : decode c_L_convert 2 = .ok (.aload_n 0, 1) := by decide +kernel
theorem d_L_convert_3 : decode c_L_convert 3 = .ok (.iload_n 1, 1) := by decide +kernel
theorem d_L_convert_4 : decode c_L_convert 4 = .ok (.invokevirtual 48, 3) := by decide +kernel
theorem d_L_convert_7 : decode c_L_convert 7 = .ok (.i2l, 1) := by decide +kernel
theorem d_L_convert_8 : decode c_L_convert 8 = .ok (.lastore, 1) := by decide +kernel
theorem d_L_convert_9 : decode c_L_convert 9 = .ok (.goto 6, 3) := by decide +kernel
theorem d_L_convert_12 : decode c_L_convert 12 = .ok (.astore_n 3, 1) := by decide +kernel
theorem d_L_convert_13 : decode c_L_convert 13 = .ok (.iconst 1, 1) := by decide +kernel
theorem d_L_convert_14 : decode c_L_convert 14 = .ok (.ireturn, 1) := by decide +kernel
theorem d_L_convert_15 : decode c_L_convert 15 = .ok (.iconst 0, 1) := by decide +kernel
theorem d_L_convert_16 : decode c_L_convert 16 = .ok (.ireturn, 1) := by decide +kernel
theorem d_L_digit_0 : decode c_L_digit 0 = .ok (.aload_n 2, 1) := by decide +kernel
theorem d_L_digit_1 : decode c_L_digit 1 = .ok (.iconst 0, 1) := by decide +kernel
theorem d_L_digit_2 : decode c_L_digit 2 = .ok (.aload_n 0, 1) := by decide +kernel
theorem d_L_digit_3 : decode c_L_digit 3 = .ok (.iload_n 1, 1) := by decide +kernel
theorem d_L_digit_4 : decode c_L_digit 4 = .ok (.invokevirtual 51, 3) := by decide +kernel
theorem d_L_digit_7 : decode c_L_digit 7 = .ok (.i2l, 1) := by decide +kernel
theorem d_L_digit_8 : decode c_L_digit 8 = .ok (.lastore, 1) := by decide +kernel
theorem d_L_digit_9 : decode c_L_digit 9 = .ok (.goto 6, 3) := by decide +kernel
theorem d_L_digit_12 : decode c_L_digit 12 = .ok (.astore_n 3, 1) := by decide +kernel
theorem d_L_digit_13 : decode c_L_digit 13 = .ok (.iconst 1, 1) := by decide +kernel
theorem d_L_digit_14 : decode c_L_digit 14 = .ok (.ireturn, 1) := by decide +kernel
theorem d_L_digit_15 : decode c_L_digit 15 = .ok (.iconst 0, 1) := by decide +kernel
theorem d_L_digit_16 : decode c_L_digit 16 = .ok (.ireturn, 1) := by decide +kernel
theorem d_L_about_0 : decode c_L_about 0 = .ok (.aload_n 2, 1) := by decide +kernel
theorem d_L_about_1 : decode c_L_about 1 = .ok (.iconst 0, 1) := by decide +kernel
theorem d_L_about_2 : decode c_L_about 2 = .ok (.aload_n 0, 1) := by decide +kernel
theorem d_L_about_3 : decode c_L_about 3 = .ok (.iload_n 1, 1) := by decide +kernel
theorem d_L_about_4 : decode c_L_about 4 = .ok (.invokevirtual 56, 3) := by decide +kernel
theorem d_L_about_7 : decode c_L_about 7 = .ok (.i2l, 1) := by decide +kernel
theorem d_L_about_8 : decode c_L_about 8 = .ok (.lastore, 1) := by decide +kernel
theorem d_L_about_9 : decode c_L_about 9 = .ok (.goto 6, 3) := by decide +kernel
theorem d_L_about_12 : decode c_L_about 12 = .ok (.astore_n 3, 1) := by decide +kernel
theorem d_L_about_13 : decode c_L_about 13 = .ok (.iconst 1, 1) := by decide +kernel
theorem d_L_about_14 : decode c_L_about 14 = .ok (.ireturn, 1) := by decide +kernel
theorem d_L_about_15 : decode c_L_about 15 = .ok (.iconst 0, 1) := by decide +kernel
theorem d_L_about_16 : decode c_L_about 16 = .ok (.ireturn, 1) := by decide +kernel
theorem d_L_count_0 : decode c_L_count 0 = .ok (.aload 4, 2) := by decide +kernel
theorem d_L_count_2 : decode c_L_count 2 = .ok (.iconst 0, 1) := by decide +kernel
theorem d_L_count_3 : decode c_L_count 3 = .ok (.aload_n 0, 1) := by decide +kernel
theorem d_L_count_4 : decode c_L_count 4 = .ok (.iload_n 1, 1) := by decide +kernel
theorem d_L_count_5 : decode c_L_count 5 = .ok (.iload_n 2, 1) := by decide +kernel
theorem d_L_count_6 : decode c_L_count 6 = .ok (.iload_n 3, 1) := by decide +kernel
theorem d_L_count_7 : decode c_L_count 7 = .ok (.invokevirtual 59, 3) := by decide +kernel
theorem d_L_count_10 : decode c_L_count 10 = .ok (.i2l, 1) := by decide +kernel
theorem d_L_count_11 : decode c_L_count 11 = .ok (.lastore, 1) := by decide +kernel
theorem d_L_count_12 : decode c_L_count 12 = .ok (.goto 7, 3) := by decide +kernel
theorem d_L_count_15 : decode c_L_count 15 = .ok (.astore 5, 2) := by decide +kernel
theorem d_L_count_17 : decode c_L_count 17 = .ok (.iconst 1, 1) := by decide +kernel
theorem d_L_count_18 : decode c_L_count 18 = .ok (.ireturn, 1) := by decide +kernel
theorem d_L_count_19 : decode c_L_count 19 = .ok (.iconst 0, 1) := by decide +kernel
theorem d_L_count_20 : decode c_L_count 20 = .ok (.ireturn, 1) := by decide +kernel
theorem d_L_find_0 : decode c_L_find 0 = .ok (.aload 5, 2) := by decide +kernel
theorem d_L_find_2 : decode c_L_find 2 = .ok (.iconst 0, 1) := by decide +kernel
theorem d_L_find_3 : decode c_L_find 3 = .ok (.aload_n 0, 1) := by decide +kernel
theorem d_L_find_4 : decode c_L_find 4 = .ok (.lload_n 1, 1) := by decide +kernel
theorem d_L_find_5 : decode c_L_find 5 = .ok (.iload_n 3, 1) := by decide +kernel
theorem d_L_find_6 : decode c_L_find 6 = .ok (.iload 4, 2) := by decide +kernel
theorem d_L_find_8 : decode c_L_find 8 = .ok (.invokevirtual 62, 3) := by decide +kernel
theorem d_L_find_11 : decode c_L_find 11 = .ok (.i2l, 1) := by decide +kernel
theorem d_L_find_12 : decode c_L_find 12 = .ok (.lastore, 1) := by decide +kernel
theorem d_L_find_13 : decode c_L_find 13 = .ok (.goto 7, 3) := by decide +kernel
theorem d_L_find_16 : decode c_L_find 16 = .ok (.astore 6, 2) := by decide +kernel
theorem d_L_find_18 : decode c_L_find 18 = .ok (.iconst 1, 1) := by decide +kernel
theorem d_L_find_19 : decode c_L_find 19 = .ok (.ireturn, 1) := by decide +kernel
theorem d_L_find_20 : decode c_L_find 20 = .ok (.iconst 0, 1) := by decide +kernel
theorem d_L_find_21 : decode c_L_find 21 = .ok (.ireturn, 1) := by decide +kernel
theorem d_L_law_0 : decode c_L_law 0 = .ok (.new 8, 3) := by decide +kernel
theorem d_L_law_3 : decode c_L_law 3 = .ok (.dup, 1) := by decide +kernel
theorem d_L_law_4 : decode c_L_law 4 = .ok (.invokespecial 65, 3) := by decide +kernel
theorem d_L_law_7 : decode c_L_law 7 = .ok (.astore_n 1, 1) := by decide +kernel
theorem d_L_law_8 : decode c_L_law 8 = .ok (.new 66, 3) := by decide +kernel
theorem d_L_law_11 : decode c_L_law 11 = .ok (.dup, 1) := by decide +kernel
theorem d_L_law_12 : decode c_L_law 12 = .ok (.invokespecial 68, 3) := by decide +kernel
theorem d_L_law_15 : decode c_L_law 15 = .ok (.astore_n 2, 1) := by decide +kernel
theorem d_L_law_16 : decode c_L_law 16 = .ok (.iconst 1, 1) := by decide +kernel
theorem d_L_law_17 : decode c_L_law 17 = .ok (.newarray .long, 2) := by decide +kernel
theorem d_L_law_19 : decode c_L_law 19 = .ok (.astore_n 3, 1) := by decide +kernel
theorem d_L_law_20 : decode c_L_law 20 = .ok (.iconst 0, 1) := by decide +kernel
theorem d_L_law_21 : decode c_L_law 21 = .ok (.istore 4, 2) := by decide +kernel
theorem d_L_law_23 : decode c_L_law 23 = .ok (.iload 4, 2) := by decide +kernel
theorem d_L_law_25 : decode c_L_law 25 = .ok (.aload_n 0, 1) := by decide +kernel
theorem d_L_law_26 : decode c_L_law 26 = .ok (.arraylength, 1) := by decide +kernel
theorem d_L_law_27 : decode c_L_law 27 = .ok (.bipush 7, 2) := by decide +kernel
theorem d_L_law_29 : decode c_L_law 29 = .ok (.isub, 1) := by decide +kernel
theorem d_L_law_30 : decode c_L_law 30 = .ok (.if_icmp .gt 1196, 3) := by decide +kernel
theorem d_L_law_33 : decode c_L_law 33 = .ok (.aload_n 0, 1) := by decide +kernel
theorem d_L_law_34 : decode c_L_law 34 = .ok (.iload 4, 2) := by decide +kernel
theorem d_L_law_36 : decode c_L_law 36 = .ok (.iaload, 1) := by decide +kernel
theorem d_L_law_37 : decode c_L_law 37 = .ok (.bipush 31, 2) := by decide +kernel
theorem d_L_law_39 : decode c_L_law 39 = .ok (.iand, 1) := by decide +kernel
theorem d_L_law_40 : decode c_L_law 40 = .ok (.tableswitch 1180 0 17 #[88, 168, 280, 438, 538, 594, 605, 618, 662, 706, 750, 794, 807, 863, 919, 975, 1055, 1167], 88) := by decide +kernel
theorem d_L_law_128 : decode c_L_law 128 = .ok (.aload_n 1, 1) := by decide +kernel
theorem d_L_law_129 : decode c_L_law 129 = .ok (.aload_n 0, 1) := by decide +kernel
theorem d_L_law_130 : decode c_L_law 130 = .ok (.iload 4, 2) := by decide +kernel
theorem d_L_law_132 : decode c_L_law 132 = .ok (.iconst 1, 1) := by decide +kernel
theorem d_L_law_133 : decode c_L_law 133 = .ok (.iadd, 1) := by decide +kernel
theorem d_L_law_134 : decode c_L_law 134 = .ok (.iaload, 1) := by decide +kernel
theorem d_L_law_135 : decode c_L_law 135 = .ok (.aload_n 0, 1) := by decide +kernel
theorem d_L_law_136 : decode c_L_law 136 = .ok (.iload 4, 2) := by decide +kernel
theorem d_L_law_138 : decode c_L_law 138 = .ok (.iconst 2, 1) := by decide +kernel
theorem d_L_law_139 : decode c_L_law 139 = .ok (.iadd, 1) := by decide +kernel
theorem d_L_law_140 : decode c_L_law 140 = .ok (.iaload, 1) := by decide +kernel
theorem d_L_law_141 : decode c_L_law 141 = .ok (.aload_n 0, 1) := by decide +kernel
theorem d_L_law_142 : decode c_L_law 142 = .ok (.iload 4, 2) := by decide +kernel
theorem d_L_law_144 : decode c_L_law 144 = .ok (.iconst 3, 1) := by decide +kernel
theorem d_L_law_145 : decode c_L_law 145 = .ok (.iadd, 1) := by decide +kernel
theorem d_L_law_146 : decode c_L_law 146 = .ok (.iaload, 1) := by decide +kernel
theorem d_L_law_147 : decode c_L_law 147 = .ok (.aload_n 3, 1) := by decide +kernel
theorem d_L_law_148 : decode c_L_law 148 = .ok (.invokestatic 69, 3) := by decide +kernel
theorem d_L_law_151 : decode c_L_law 151 = .ok (.istore 5, 2) := by decide +kernel
theorem d_L_law_153 : decode c_L_law 153 = .ok (.aload_n 2, 1) := by decide +kernel
theorem d_L_law_154 : decode c_L_law 154 = .ok (.aload_n 0, 1) := by decide +kernel
theorem d_L_law_155 : decode c_L_law 155 = .ok (.iload 4, 2) := by decide +kernel
theorem d_L_law_157 : decode c_L_law 157 = .ok (.iconst 1, 1) := by decide +kernel
theorem d_L_law_158 : decode c_L_law 158 = .ok (.iadd, 1) := by decide +kernel
theorem d_L_law_159 : decode c_L_law 159 = .ok (.iaload, 1) := by decide +kernel
theorem d_L_law_160 : decode c_L_law 160 = .ok (.aload_n 0, 1) := by decide +kernel
theorem d_L_law_161 : decode c_L_law 161 = .ok (.iload 4, 2) := by decide +kernel
theorem d_L_law_163 : decode c_L_law 163 = .ok (.iconst 2, 1) := by decide +kernel
theorem d_L_law_164 : decode c_L_law 164 = .ok (.iadd, 1) := by decide +kernel
theorem d_L_law_165 : decode c_L_law 165 = .ok (.iaload, 1) := by decide +kernel
theorem d_L_law_166 : decode c_L_law 166 = .ok (.aload_n 0, 1) := by decide +kernel
theorem d_L_law_167 : decode c_L_law 167 = .ok (.iload 4, 2) := by decide +kernel
theorem d_L_law_169 : decode c_L_law 169 = .ok (.iconst 3, 1) := by decide +kernel
theorem d_L_law_170 : decode c_L_law 170 = .ok (.iadd, 1) := by decide +kernel
theorem d_L_law_171 : decode c_L_law 171 = .ok (.iaload, 1) := by decide +kernel
theorem d_L_law_172 : decode c_L_law 172 = .ok (.invokevirtual 74, 3) := by decide +kernel
theorem d_L_law_175 : decode c_L_law 175 = .ok (.istore 6, 2) := by decide +kernel
theorem d_L_law_177 : decode c_L_law 177 = .ok (.aload_n 2, 1) := by decide +kernel
theorem d_L_law_178 : decode c_L_law 178 = .ok (.invokevirtual 75, 3) := by decide +kernel
theorem d_L_law_181 : decode c_L_law 181 = .ok (.iload 5, 2) := by decide +kernel
theorem d_L_law_183 : decode c_L_law 183 = .ok (.if_icmp .eq 5, 3) := by decide +kernel
theorem d_L_law_186 : decode c_L_law 186 = .ok (.iconst 0, 1) := by decide +kernel
theorem d_L_law_187 : decode c_L_law 187 = .ok (.ireturn, 1) := by decide +kernel
theorem d_L_law_188 : decode c_L_law 188 = .ok (.iload 5, 2) := by decide +kernel
theorem d_L_law_190 : decode c_L_law 190 = .ok (.ifCond .ne 15, 3) := by decide +kernel
theorem d_L_law_193 : decode c_L_law 193 = .ok (.aload_n 3, 1) := by decide +kernel
theorem d_L_law_194 : decode c_L_law 194 = .ok (.iconst 0, 1) := by decide +kernel
theorem d_L_law_195 : decode c_L_law 195 = .ok (.laload, 1) := by decide +kernel
theorem d_L_law_196 : decode c_L_law 196 = .ok (.iload 6, 2) := by decide +kernel
theorem d_L_law_198 : decode c_L_law 198 = .ok (.i2l, 1) := by decide +kernel
theorem d_L_law_199 : decode c_L_law 199 = .ok (.lcmp, 1) := by decide +kernel
theorem d_L_law_200 : decode c_L_law 200 = .ok (.ifCond .eq 5, 3) := by decide +kernel
theorem d_L_law_203 : decode c_L_law 203 = .ok (.iconst 0, 1) := by decide +kernel
theorem d_L_law_204 : decode c_L_law 204 = .ok (.ireturn, 1) := by decide +kernel
theorem d_L_law_205 : decode c_L_law 205 = .ok (.goto 1015, 3) := by decide +kernel
theorem d_L_law_208 : decode c_L_law 208 = .ok (.aload_n 1, 1) := by decide +kernel
theorem d_L_law_209 : decode c_L_law 209 = .ok (.aload_n 0, 1) := by decide +kernel
theorem d_L_law_210 : decode c_L_law 210 = .ok (.iload 4, 2) := by decide +kernel
theorem d_L_law_212 : decode c_L_law 212 = .ok (.iconst 1, 1) := by decide +kernel
theorem d_L_law_213 : decode c_L_law 213 = .ok (.iadd, 1) := by decide +kernel
theorem d_L_law_214 : decode c_L_law 214 = .ok (.iaload, 1) := by decide +kernel
theorem d_L_law_215 : decode c_L_law 215 = .ok (.i2l, 1) := by decide +kernel
theorem d_L_law_216 : decode c_L_law 216 = .ok (.bipush 32, 2) := by decide +kernel
theorem d_L_law_218 : decode c_L_law 218 = .ok (.lshl, 1) := by decide +kernel
theorem d_L_law_219 : decode c_L_law 219 = .ok (.aload_n 0, 1) := by decide +kernel
theorem d_L_law_220 : decode c_L_law 220 = .ok (.iload 4, 2) := by decide +kernel
theorem d_L_law_222 : decode c_L_law 222 = .ok (.iconst 2, 1) := by decide +kernel
theorem d_L_law_223 : decode c_L_law 223 = .ok (.iadd, 1) := by decide +kernel
theorem d_L_law_224 : decode c_L_law 224 = .ok (.iaload, 1) := by decide +kernel
theorem d_L_law_225 : decode c_L_law 225 = .ok (.i2l, 1) := by decide +kernel
theorem d_L_law_226 : decode c_L_law 226 = .ok (.ldc2_w 78, 3) := by decide +kernel
theorem d_L_law_229 : decode c_L_law 229 = .ok (.land, 1) := by decide +kernel
theorem d_L_law_230 : decode c_L_law 230 = .ok (.lor, 1) := by decide +kernel
theorem d_L_law_231 : decode c_L_law 231 = .ok (.aload_n 0, 1) := by decide +kernel
theorem d_L_law_232 : decode c_L_law 232 = .ok (.iload 4, 2) := by decide +kernel
theorem d_L_law_234 : decode c_L_law 234 = .ok (.iconst 3, 1) := by decide +kernel
theorem d_L_law_235 : decode c_L_law 235 = .ok (.iadd, 1) := by decide +kernel
theorem d_L_law_236 : decode c_L_law 236 = .ok (.iaload, 1) := by decide +kernel
theorem d_L_law_237 : decode c_L_law 237 = .ok (.aload_n 0, 1) := by decide +kernel
theorem d_L_law_238 : decode c_L_law 238 = .ok (.iload 4, 2) := by decide +kernel
theorem d_L_law_240 : decode c_L_law 240 = .ok (.iconst 4, 1) := by decide +kernel
theorem d_L_law_241 : decode c_L_law 241 = .ok (.iadd, 1) := by decide +kernel
theorem d_L_law_242 : decode c_L_law 242 = .ok (.iaload, 1) := by decide +kernel
theorem d_L_law_243 : decode c_L_law 243 = .ok (.aload_n 3, 1) := by decide +kernel
theorem d_L_law_244 : decode c_L_law 244 = .ok (.invokestatic 80, 3) := by decide +kernel
theorem d_L_law_247 : decode c_L_law 247 = .ok (.istore 5, 2) := by decide +kernel
theorem d_L_law_249 : decode c_L_law 249 = .ok (.aload_n 2, 1) := by decide +kernel
theorem d_L_law_250 : decode c_L_law 250 = .ok (.aload_n 0, 1) := by decide +kernel
theorem d_L_law_251 : decode c_L_law 251 = .ok (.iload 4, 2) := by decide +kernel
theorem d_L_law_253 : decode c_L_law 253 = .ok (.iconst 1, 1) := by decide +kernel
theorem d_L_law_254 : decode c_L_law 254 = .ok (.iadd, 1) := by decide +kernel
theorem d_L_law_255 : decode c_L_law 255 = .ok (.iaload, 1) := by decide +kernel
theorem d_L_law_256 : decode c_L_law 256 = .ok (.i2l, 1) := by decide +kernel
theorem d_L_law_257 : decode c_L_law 257 = .ok (.bipush 32, 2) := by decide +kernel
theorem d_L_law_259 : decode c_L_law 259 = .ok (.lshl, 1) := by decide +kernel
theorem d_L_law_260 : decode c_L_law 260 = .ok (.aload_n 0, 1) := by decide +kernel
theorem d_L_law_261 : decode c_L_law 261 = .ok (.iload 4, 2) := by decide +kernel
theorem d_L_law_263 : decode c_L_law 263 = .ok (.iconst 2, 1) := by decide +kernel
theorem d_L_law_264 : decode c_L_law 264 = .ok (.iadd, 1) := by decide +kernel
theorem d_L_law_265 : decode c_L_law 265 = .ok (.iaload, 1) := by decide +kernel
theorem d_L_law_266 : decode c_L_law 266 = .ok (.i2l, 1) := by decide +kernel
theorem d_L_law_267 : decode c_L_law 267 = .ok (.ldc2_w 78, 3) := by decide +kernel
theorem d_L_law_270 : decode c_L_law 270 = .ok (.land, 1) := by decide +kernel
theorem d_L_law_271 : decode c_L_law 271 = .ok (.lor, 1) := by decide +kernel
theorem d_L_law_272 : decode c_L_law 272 = .ok (.aload_n 0, 1) := by decide +kernel
theorem d_L_law_273 : decode c_L_law 273 = .ok (.iload 4, 2) := by decide +kernel
theorem d_L_law_275 : decode c_L_law 275 = .ok (.iconst 3, 1) := by decide +kernel
theorem d_L_law_276 : decode c_L_law 276 = .ok (.iadd, 1) := by decide +kernel
theorem d_L_law_277 : decode c_L_law 277 = .ok (.iaload, 1) := by decide +kernel
theorem d_L_law_278 : decode c_L_law 278 = .ok (.aload_n 0, 1) := by decide +kernel
theorem d_L_law_279 : decode c_L_law 279 = .ok (.iload 4, 2) := by decide +kernel
theorem d_L_law_281 : decode c_L_law 281 = .ok (.iconst 4, 1) := by decide +kernel
theorem d_L_law_282 : decode c_L_law 282 = .ok (.iadd, 1) := by decide +kernel
theorem d_L_law_283 : decode c_L_law 283 = .ok (.iaload, 1) := by decide +kernel
theorem d_L_law_284 : decode c_L_law 284 = .ok (.invokevirtual 83, 3) := by decide +kernel
theorem d_L_law_287 : decode c_L_law 287 = .ok (.istore 6, 2) := by decide +kernel
theorem d_L_law_289 : decode c_L_law 289 = .ok (.aload_n 2, 1) := by decide +kernel
theorem d_L_law_290 : decode c_L_law 290 = .ok (.invokevirtual 75, 3) := by decide +kernel
theorem d_L_law_293 : decode c_L_law 293 = .ok (.iload 5, 2) := by decide +kernel
theorem d_L_law_295 : decode c_L_law 295 = .ok (.if_icmp .eq 5, 3) := by decide +kernel
theorem d_L_law_298 : decode c_L_law 298 = .ok (.iconst 0, 1) := by decide +kernel
theorem d_L_law_299 : decode c_L_law 299 = .ok (.ireturn, 1) := by decide +kernel
theorem d_L_law_300 : decode c_L_law 300 = .ok (.iload 5, 2) := by decide +kernel
theorem d_L_law_302 : decode c_L_law 302 = .ok (.ifCond .ne 15, 3) := by decide +kernel
theorem d_L_law_305 : decode c_L_law 305 = .ok (.aload_n 3, 1) := by decide +kernel
theorem d_L_law_306 : decode c_L_law 306 = .ok (.iconst 0, 1) := by decide +kernel
theorem d_L_law_307 : decode c_L_law 307 = .ok (.laload, 1) := by decide +kernel
theorem d_L_law_308 : decode c_L_law 308 = .ok (.iload 6, 2) := by decide +kernel
theorem d_L_law_310 : decode c_L_law 310 = .ok (.i2l, 1) := by decide +kernel
theorem d_L_law_311 : decode c_L_law 311 = .ok (.lcmp, 1) := by decide +kernel
theorem d_L_law_312 : decode c_L_law 312 = .ok (.ifCond .eq 5, 3) := by decide +kernel
theorem d_L_law_315 : decode c_L_law 315 = .ok (.iconst 0, 1) := by decide +kernel
theorem d_L_law_316 : decode c_L_law 316 = .ok (.ireturn, 1) := by decide +kernel
theorem d_L_law_317 : decode c_L_law 317 = .ok (.goto 903, 3) := by decide +kernel
theorem d_L_law_320 : decode c_L_law 320 = .ok (.aload_n 1, 1) := by decide +kernel
theorem d_L_law_321 : decode c_L_law 321 = .ok (.aload_n 0, 1) := by decide +kernel
theorem d_L_law_322 : decode c_L_law 322 = .ok (.iload 4, 2) := by decide +kernel
theorem d_L_law_324 : decode c_L_law 324 = .ok (.iconst 1, 1) := by decide +kernel
theorem d_L_law_325 : decode c_L_law 325 = .ok (.iadd, 1) := by decide +kernel
theorem d_L_law_326 : decode c_L_law 326 = .ok (.iaload, 1) := by decide +kernel
theorem d_L_law_327 : decode c_L_law 327 = .ok (.i2l, 1) := by decide +kernel
theorem d_L_law_328 : decode c_L_law 328 = .ok (.bipush 32, 2) := by decide +kernel
theorem d_L_law_330 : decode c_L_law 330 = .ok (.lshl, 1) := by decide +kernel
theorem d_L_law_331 : decode c_L_law 331 = .ok (.aload_n 0, 1) := by decide +kernel
theorem d_L_law_332 : decode c_L_law 332 = .ok (.iload 4, 2) := by decide +kernel
theorem d_L_law_334 : decode c_L_law 334 = .ok (.iconst 2, 1) := by decide +kernel
theorem d_L_law_335 : decode c_L_law 335 = .ok (.iadd, 1) := by decide +kernel
theorem d_L_law_336 : decode c_L_law 336 = .ok (.iaload, 1) := by decide +kernel
theorem d_L_law_337 : decode c_L_law 337 = .ok (.i2l, 1) := by decide +kernel
theorem d_L_law_338 : decode c_L_law 338 = .ok (.ldc2_w 78, 3) := by decide +kernel
theorem d_L_law_341 : decode c_L_law 341 = .ok (.land, 1) := by decide +kernel
theorem d_L_law_342 : decode c_L_law 342 = .ok (.lor, 1) := by decide +kernel
theorem d_L_law_343 : decode c_L_law 343 = .ok (.aload_n 0, 1) := by decide +kernel
theorem d_L_law_344 : decode c_L_law 344 = .ok (.iload 4, 2) := by decide +kernel
theorem d_L_law_346 : decode c_L_law 346 = .ok (.iconst 3, 1) := by decide +kernel
theorem d_L_law_347 : decode c_L_law 347 = .ok (.iadd, 1) := by decide +kernel
theorem d_L_law_348 : decode c_L_law 348 = .ok (.iaload, 1) := by decide +kernel
theorem d_L_law_349 : decode c_L_law 349 = .ok (.i2l, 1) := by decide +kernel
theorem d_L_law_350 : decode c_L_law 350 = .ok (.bipush 32, 2) := by decide +kernel
theorem d_L_law_352 : decode c_L_law 352 = .ok (.lshl, 1) := by decide +kernel
theorem d_L_law_353 : decode c_L_law 353 = .ok (.aload_n 0, 1) := by decide +kernel
theorem d_L_law_354 : decode c_L_law 354 = .ok (.iload 4, 2) := by decide +kernel
theorem d_L_law_356 : decode c_L_law 356 = .ok (.iconst 4, 1) := by decide +kernel
theorem d_L_law_357 : decode c_L_law 357 = .ok (.iadd, 1) := by decide +kernel
theorem d_L_law_358 : decode c_L_law 358 = .ok (.iaload, 1) := by decide +kernel
theorem d_L_law_359 : decode c_L_law 359 = .ok (.i2l, 1) := by decide +kernel
theorem d_L_law_360 : decode c_L_law 360 = .ok (.ldc2_w 78, 3) := by decide +kernel
theorem d_L_law_363 : decode c_L_law 363 = .ok (.land, 1) := by decide +kernel
theorem d_L_law_364 : decode c_L_law 364 = .ok (.lor, 1) := by decide +kernel
theorem d_L_law_365 : decode c_L_law 365 = .ok (.aload_n 0, 1) := by decide +kernel
theorem d_L_law_366 : decode c_L_law 366 = .ok (.iload 4, 2) := by decide +kernel
theorem d_L_law_368 : decode c_L_law 368 = .ok (.iconst 5, 1) := by decide +kernel
theorem d_L_law_369 : decode c_L_law 369 = .ok (.iadd, 1) := by decide +kernel
theorem d_L_law_370 : decode c_L_law 370 = .ok (.iaload, 1) := by decide +kernel
theorem d_L_law_371 : decode c_L_law 371 = .ok (.aload_n 0, 1) := by decide +kernel
theorem d_L_law_372 : decode c_L_law 372 = .ok (.iload 4, 2) := by decide +kernel
theorem d_L_law_374 : decode c_L_law 374 = .ok (.bipush 6, 2) := by decide +kernel
theorem d_L_law_376 : decode c_L_law 376 = .ok (.iadd, 1) := by decide +kernel
theorem d_L_law_377 : decode c_L_law 377 = .ok (.iaload, 1) := by decide +kernel
theorem d_L_law_378 : decode c_L_law 378 = .ok (.aload_n 3, 1) := by decide +kernel
theorem d_L_law_379 : decode c_L_law 379 = .ok (.invokestatic 84, 3) := by decide +kernel
theorem d_L_law_382 : decode c_L_law 382 = .ok (.istore 5, 2) := by decide +kernel
theorem d_L_law_384 : decode c_L_law 384 = .ok (.aload_n 2, 1) := by decide +kernel
theorem d_L_law_385 : decode c_L_law 385 = .ok (.aload_n 0, 1) := by decide +kernel
theorem d_L_law_386 : decode c_L_law 386 = .ok (.iload 4, 2) := by decide +kernel
theorem d_L_law_388 : decode c_L_law 388 = .ok (.iconst 1, 1) := by decide +kernel
theorem d_L_law_389 : decode c_L_law 389 = .ok (.iadd, 1) := by decide +kernel
theorem d_L_law_390 : decode c_L_law 390 = .ok (.iaload, 1) := by decide +kernel
theorem d_L_law_391 : decode c_L_law 391 = .ok (.i2l, 1) := by decide +kernel
theorem d_L_law_392 : decode c_L_law 392 = .ok (.bipush 32, 2) := by decide +kernel
theorem d_L_law_394 : decode c_L_law 394 = .ok (.lshl, 1) := by decide +kernel
theorem d_L_law_395 : decode c_L_law 395 = .ok (.aload_n 0, 1) := by decide +kernel
theorem d_L_law_396 : decode c_L_law 396 = .ok (.iload 4, 2) := by decide +kernel
theorem d_L_law_398 : decode c_L_law 398 = .ok (.iconst 2, 1) := by decide +kernel
theorem d_L_law_399 : decode c_L_law 399 = .ok (.iadd, 1) := by decide +kernel
theorem d_L_law_400 : decode c_L_law 400 = .ok (.iaload, 1) := by decide +kernel
theorem d_L_law_401 : decode c_L_law 401 = .ok (.i2l, 1) := by decide +kernel
theorem d_L_law_402 : decode c_L_law 402 = .ok (.ldc2_w 78, 3) := by decide +kernel
theorem d_L_law_405 : decode c_L_law 405 = .ok (.land, 1) := by decide +kernel
theorem d_L_law_406 : decode c_L_law 406 = .ok (.lor, 1) := by decide +kernel
theorem d_L_law_407 : decode c_L_law 407 = .ok (.aload_n 0, 1) := by decide +kernel
theorem d_L_law_408 : decode c_L_law 408 = .ok (.iload 4, 2) := by decide +kernel
theorem d_L_law_410 : decode c_L_law 410 = .ok (.iconst 3, 1) := by decide +kernel
theorem d_L_law_411 : decode c_L_law 411 = .ok (.iadd, 1) := by decide +kernel
theorem d_L_law_412 : decode c_L_law 412 = .ok (.iaload, 1) := by decide +kernel
theorem d_L_law_413 : decode c_L_law 413 = .ok (.i2l, 1) := by decide +kernel
theorem d_L_law_414 : decode c_L_law 414 = .ok (.bipush 32, 2) := by decide +kernel
theorem d_L_law_416 : decode c_L_law 416 = .ok (.lshl, 1) := by decide +kernel
theorem d_L_law_417 : decode c_L_law 417 = .ok (.aload_n 0, 1) := by decide +kernel
theorem d_L_law_418 : decode c_L_law 418 = .ok (.iload 4, 2) := by decide +kernel
theorem d_L_law_420 : decode c_L_law 420 = .ok (.iconst 4, 1) := by decide +kernel
theorem d_L_law_421 : decode c_L_law 421 = .ok (.iadd, 1) := by decide +kernel
theorem d_L_law_422 : decode c_L_law 422 = .ok (.iaload, 1) := by decide +kernel
theorem d_L_law_423 : decode c_L_law 423 = .ok (.i2l, 1) := by decide +kernel
theorem d_L_law_424 : decode c_L_law 424 = .ok (.ldc2_w 78, 3) := by decide +kernel
theorem d_L_law_427 : decode c_L_law 427 = .ok (.land, 1) := by decide +kernel
theorem d_L_law_428 : decode c_L_law 428 = .ok (.lor, 1) := by decide +kernel
theorem d_L_law_429 : decode c_L_law 429 = .ok (.aload_n 0, 1) := by decide +kernel
theorem d_L_law_430 : decode c_L_law 430 = .ok (.iload 4, 2) := by decide +kernel
theorem d_L_law_432 : decode c_L_law 432 = .ok (.iconst 5, 1) := by decide +kernel
theorem d_L_law_433 : decode c_L_law 433 = .ok (.iadd, 1) := by decide +kernel
theorem d_L_law_434 : decode c_L_law 434 = .ok (.iaload, 1) := by decide +kernel
theorem d_L_law_435 : decode c_L_law 435 = .ok (.aload_n 0, 1) := by decide +kernel
theorem d_L_law_436 : decode c_L_law 436 = .ok (.iload 4, 2) := by decide +kernel
theorem d_L_law_438 : decode c_L_law 438 = .ok (.bipush 6, 2) := by decide +kernel
theorem d_L_law_440 : decode c_L_law 440 = .ok (.iadd, 1) := by decide +kernel
theorem d_L_law_441 : decode c_L_law 441 = .ok (.iaload, 1) := by decide +kernel
theorem d_L_law_442 : decode c_L_law 442 = .ok (.invokevirtual 87, 3) := by decide +kernel
theorem d_L_law_445 : decode c_L_law 445 = .ok (.istore 6, 2) := by decide +kernel
theorem d_L_law_447 : decode c_L_law 447 = .ok (.aload_n 2, 1) := by decide +kernel
theorem d_L_law_448 : decode c_L_law 448 = .ok (.invokevirtual 75, 3) := by decide +kernel
theorem d_L_law_451 : decode c_L_law 451 = .ok (.iload 5, 2) := by decide +kernel
theorem d_L_law_453 : decode c_L_law 453 = .ok (.if_icmp .eq 5, 3) := by decide +kernel
theorem d_L_law_456 : decode c_L_law 456 = .ok (.iconst 0, 1) := by decide +kernel
theorem d_L_law_457 : decode c_L_law 457 = .ok (.ireturn, 1) := by decide +kernel
theorem d_L_law_458 : decode c_L_law 458 = .ok (.iload 5, 2) := by decide +kernel
theorem d_L_law_460 : decode c_L_law 460 = .ok (.ifCond .ne 15, 3) := by decide +kernel
theorem d_L_law_463 : decode c_L_law 463 = .ok (.aload_n 3, 1) := by decide +kernel
theorem d_L_law_464 : decode c_L_law 464 = .ok (.iconst 0, 1) := by decide +kernel
theorem d_L_law_465 : decode c_L_law 465 = .ok (.laload, 1) := by decide +kernel
theorem d_L_law_466 : decode c_L_law 466 = .ok (.iload 6, 2) := by decide +kernel
theorem d_L_law_468 : decode c_L_law 468 = .ok (.i2l, 1) := by decide +kernel
theorem d_L_law_469 : decode c_L_law 469 = .ok (.lcmp, 1) := by decide +kernel
theorem d_L_law_470 : decode c_L_law 470 = .ok (.ifCond .eq 5, 3) := by decide +kernel
theorem d_L_law_473 : decode c_L_law 473 = .ok (.iconst 0, 1) := by decide +kernel
theorem d_L_law_474 : decode c_L_law 474 = .ok (.ireturn, 1) := by decide +kernel
theorem d_L_law_475 : decode c_L_law 475 = .ok (.goto 745, 3) := by decide +kernel
theorem d_L_law_478 : decode c_L_law 478 = .ok (.aload_n 1, 1) := by decide +kernel
theorem d_L_law_479 : decode c_L_law 479 = .ok (.aload_n 0, 1) := by decide +kernel
theorem d_L_law_480 : decode c_L_law 480 = .ok (.iload 4, 2) := by decide +kernel
theorem d_L_law_482 : decode c_L_law 482 = .ok (.iconst 1, 1) := by decide +kernel
theorem d_L_law_483 : decode c_L_law 483 = .ok (.iadd, 1) := by decide +kernel
theorem d_L_law_484 : decode c_L_law 484 = .ok (.iaload, 1) := by decide +kernel
theorem d_L_law_485 : decode c_L_law 485 = .ok (.i2l, 1) := by decide +kernel
theorem d_L_law_486 : decode c_L_law 486 = .ok (.bipush 32, 2) := by decide +kernel
theorem d_L_law_488 : decode c_L_law 488 = .ok (.lshl, 1) := by decide +kernel
theorem d_L_law_489 : decode c_L_law 489 = .ok (.aload_n 0, 1) := by decide +kernel
theorem d_L_law_490 : decode c_L_law 490 = .ok (.iload 4, 2) := by decide +kernel
theorem d_L_law_492 : decode c_L_law 492 = .ok (.iconst 2, 1) := by decide +kernel
theorem d_L_law_493 : decode c_L_law 493 = .ok (.iadd, 1) := by decide +kernel
theorem d_L_law_494 : decode c_L_law 494 = .ok (.iaload, 1) := by decide +kernel
theorem d_L_law_495 : decode c_L_law 495 = .ok (.i2l, 1) := by decide +kernel
theorem d_L_law_496 : decode c_L_law 496 = .ok (.ldc2_w 78, 3) := by decide +kernel
theorem d_L_law_499 : decode c_L_law 499 = .ok (.land, 1) := by decide +kernel
theorem d_L_law_500 : decode c_L_law 500 = .ok (.lor, 1) := by decide +kernel
theorem d_L_law_501 : decode c_L_law 501 = .ok (.aload_n 0, 1) := by decide +kernel
theorem d_L_law_502 : decode c_L_law 502 = .ok (.iload 4, 2) := by decide +kernel
theorem d_L_law_504 : decode c_L_law 504 = .ok (.iconst 3, 1) := by decide +kernel
theorem d_L_law_505 : decode c_L_law 505 = .ok (.iadd, 1) := by decide +kernel
theorem d_L_law_506 : decode c_L_law 506 = .ok (.iaload, 1) := by decide +kernel
theorem d_L_law_507 : decode c_L_law 507 = .ok (.aload_n 3, 1) := by decide +kernel
theorem d_L_law_508 : decode c_L_law 508 = .ok (.invokestatic 88, 3) := by decide +kernel
theorem d_L_law_511 : decode c_L_law 511 = .ok (.istore 5, 2) := by decide +kernel
theorem d_L_law_513 : decode c_L_law 513 = .ok (.aload_n 2, 1) := by decide +kernel
theorem d_L_law_514 : decode c_L_law 514 = .ok (.aload_n 0, 1) := by decide +kernel
theorem d_L_law_515 : decode c_L_law 515 = .ok (.iload 4, 2) := by decide +kernel
theorem d_L_law_517 : decode c_L_law 517 = .ok (.iconst 1, 1) := by decide +kernel
theorem d_L_law_518 : decode c_L_law 518 = .ok (.iadd, 1) := by decide +kernel
theorem d_L_law_519 : decode c_L_law 519 = .ok (.iaload, 1) := by decide +kernel
theorem d_L_law_520 : decode c_L_law 520 = .ok (.i2l, 1) := by decide +kernel
theorem d_L_law_521 : decode c_L_law 521 = .ok (.bipush 32, 2) := by decide +kernel
theorem d_L_law_523 : decode c_L_law 523 = .ok (.lshl, 1) := by decide +kernel
theorem d_L_law_524 : decode c_L_law 524 = .ok (.aload_n 0, 1) := by decide +kernel
theorem d_L_law_525 : decode c_L_law 525 = .ok (.iload 4, 2) := by decide +kernel
theorem d_L_law_527 : decode c_L_law 527 = .ok (.iconst 2, 1) := by decide +kernel
theorem d_L_law_528 : decode c_L_law 528 = .ok (.iadd, 1) := by decide +kernel
theorem d_L_law_529 : decode c_L_law 529 = .ok (.iaload, 1) := by decide +kernel
theorem d_L_law_530 : decode c_L_law 530 = .ok (.i2l, 1) := by decide +kernel
theorem d_L_law_531 : decode c_L_law 531 = .ok (.ldc2_w 78, 3) := by decide +kernel
theorem d_L_law_534 : decode c_L_law 534 = .ok (.land, 1) := by decide +kernel
theorem d_L_law_535 : decode c_L_law 535 = .ok (.lor, 1) := by decide +kernel
theorem d_L_law_536 : decode c_L_law 536 = .ok (.aload_n 0, 1) := by decide +kernel
theorem d_L_law_537 : decode c_L_law 537 = .ok (.iload 4, 2) := by decide +kernel
theorem d_L_law_539 : decode c_L_law 539 = .ok (.iconst 3, 1) := by decide +kernel
theorem d_L_law_540 : decode c_L_law 540 = .ok (.iadd, 1) := by decide +kernel
theorem d_L_law_541 : decode c_L_law 541 = .ok (.iaload, 1) := by decide +kernel
theorem d_L_law_542 : decode c_L_law 542 = .ok (.invokevirtual 91, 3) := by decide +kernel
theorem d_L_law_545 : decode c_L_law 545 = .ok (.istore 6, 2) := by decide +kernel
theorem d_L_law_547 : decode c_L_law 547 = .ok (.aload_n 2, 1) := by decide +kernel
theorem d_L_law_548 : decode c_L_law 548 = .ok (.invokevirtual 75, 3) := by decide +kernel
theorem d_L_law_551 : decode c_L_law 551 = .ok (.iload 5, 2) := by decide +kernel
theorem d_L_law_553 : decode c_L_law 553 = .ok (.if_icmp .eq 5, 3) := by decide +kernel
theorem d_L_law_556 : decode c_L_law 556 = .ok (.iconst 0, 1) := by decide +kernel
theorem d_L_law_557 : decode c_L_law 557 = .ok (.ireturn, 1) := by decide +kernel
theorem d_L_law_558 : decode c_L_law 558 = .ok (.iload 5, 2) := by decide +kernel
theorem d_L_law_560 : decode c_L_law 560 = .ok (.ifCond .ne 15, 3) := by decide +kernel
theorem d_L_law_563 : decode c_L_law 563 = .ok (.aload_n 3, 1) := by decide +kernel
theorem d_L_law_564 : decode c_L_law 564 = .ok (.iconst 0, 1) := by decide +kernel
theorem d_L_law_565 : decode c_L_law 565 = .ok (.laload, 1) := by decide +kernel
theorem d_L_law_566 : decode c_L_law 566 = .ok (.iload 6, 2) := by decide +kernel
theorem d_L_law_568 : decode c_L_law 568 = .ok (.i2l, 1) := by decide +kernel
theorem d_L_law_569 : decode c_L_law 569 = .ok (.lcmp, 1) := by decide +kernel
theorem d_L_law_570 : decode c_L_law 570 = .ok (.ifCond .eq 5, 3) := by decide +kernel
theorem d_L_law_573 : decode c_L_law 573 = .ok (.iconst 0, 1) := by decide +kernel
theorem d_L_law_574 : decode c_L_law 574 = .ok (.ireturn, 1) := by decide +kernel
theorem d_L_law_575 : decode c_L_law 575 = .ok (.goto 645, 3) := by decide +kernel
theorem d_L_law_578 : decode c_L_law 578 = .ok (.aload_n 1, 1) := by decide +kernel
theorem d_L_law_579 : decode c_L_law 579 = .ok (.aload_n 0, 1) := by decide +kernel
theorem d_L_law_580 : decode c_L_law 580 = .ok (.iload 4, 2) := by decide +kernel
theorem d_L_law_582 : decode c_L_law 582 = .ok (.iconst 1, 1) := by decide +kernel
theorem d_L_law_583 : decode c_L_law 583 = .ok (.iadd, 1) := by decide +kernel
theorem d_L_law_584 : decode c_L_law 584 = .ok (.iaload, 1) := by decide +kernel
theorem d_L_law_585 : decode c_L_law 585 = .ok (.aload_n 3, 1) := by decide +kernel
theorem d_L_law_586 : decode c_L_law 586 = .ok (.invokestatic 92, 3) := by decide +kernel
theorem d_L_law_589 : decode c_L_law 589 = .ok (.istore 5, 2) := by decide +kernel
theorem d_L_law_591 : decode c_L_law 591 = .ok (.aload_n 2, 1) := by decide +kernel
theorem d_L_law_592 : decode c_L_law 592 = .ok (.aload_n 0, 1) := by decide +kernel
theorem d_L_law_593 : decode c_L_law 593 = .ok (.iload 4, 2) := by decide +kernel
theorem d_L_law_595 : decode c_L_law 595 = .ok (.iconst 1, 1) := by decide +kernel
theorem d_L_law_596 : decode c_L_law 596 = .ok (.iadd, 1) := by decide +kernel
theorem d_L_law_597 : decode c_L_law 597 = .ok (.iaload, 1) := by decide +kernel
theorem d_L_law_598 : decode c_L_law 598 = .ok (.invokevirtual 95, 3) := by decide +kernel
theorem d_L_law_601 : decode c_L_law 601 = .ok (.istore 6, 2) := by decide +kernel
theorem d_L_law_603 : decode c_L_law 603 = .ok (.aload_n 2, 1) := by decide +kernel
theorem d_L_law_604 : decode c_L_law 604 = .ok (.invokevirtual 75, 3) := by decide +kernel
theorem d_L_law_607 : decode c_L_law 607 = .ok (.iload 5, 2) := by decide +kernel
theorem d_L_law_609 : decode c_L_law 609 = .ok (.if_icmp .eq 5, 3) := by decide +kernel
theorem d_L_law_612 : decode c_L_law 612 = .ok (.iconst 0, 1) := by decide +kernel
theorem d_L_law_613 : decode c_L_law 613 = .ok (.ireturn, 1) := by decide +kernel
theorem d_L_law_614 : decode c_L_law 614 = .ok (.iload 5, 2) := by decide +kernel
theorem d_L_law_616 : decode c_L_law 616 = .ok (.ifCond .ne 15, 3) := by decide +kernel
theorem d_L_law_619 : decode c_L_law 619 = .ok (.aload_n 3, 1) := by decide +kernel
theorem d_L_law_620 : decode c_L_law 620 = .ok (.iconst 0, 1) := by decide +kernel
theorem d_L_law_621 : decode c_L_law 621 = .ok (.laload, 1) := by decide +kernel
theorem d_L_law_622 : decode c_L_law 622 = .ok (.iload 6, 2) := by decide +kernel
theorem d_L_law_624 : decode c_L_law 624 = .ok (.i2l, 1) := by decide +kernel
theorem d_L_law_625 : decode c_L_law 625 = .ok (.lcmp, 1) := by decide +kernel
theorem d_L_law_626 : decode c_L_law 626 = .ok (.ifCond .eq 5, 3) := by decide +kernel
theorem d_L_law_629 : decode c_L_law 629 = .ok (.iconst 0, 1) := by decide +kernel
theorem d_L_law_630 : decode c_L_law 630 = .ok (.ireturn, 1) := by decide +kernel
theorem d_L_law_631 : decode c_L_law 631 = .ok (.goto 589, 3) := by decide +kernel
theorem d_L_law_634 : decode c_L_law 634 = .ok (.aload_n 1, 1) := by decide +kernel
theorem d_L_law_635 : decode c_L_law 635 = .ok (.invokevirtual 96, 3) := by decide +kernel
theorem d_L_law_638 : decode c_L_law 638 = .ok (.aload_n 2, 1) := by decide +kernel
theorem d_L_law_639 : decode c_L_law 639 = .ok (.invokevirtual 99, 3) := by decide +kernel
theorem d_L_law_642 : decode c_L_law 642 = .ok (.goto 578, 3) := by decide +kernel
theorem d_L_law_645 : decode c_L_law 645 = .ok (.aload_n 1, 1) := by decide +kernel
theorem d_L_law_646 : decode c_L_law 646 = .ok (.invokevirtual 100, 3) := by decide +kernel
theorem d_L_law_649 : decode c_L_law 649 = .ok (.aload_n 2, 1) := by decide +kernel
theorem d_L_law_650 : decode c_L_law 650 = .ok (.invokevirtual 103, 3) := by decide +kernel
theorem d_L_law_653 : decode c_L_law 653 = .ok (.if_icmp .eq 567, 3) := by decide +kernel
theorem d_L_law_656 : decode c_L_law 656 = .ok (.iconst 0, 1) := by decide +kernel
theorem d_L_law_657 : decode c_L_law 657 = .ok (.ireturn, 1) := by decide +kernel
theorem d_L_law_658 : decode c_L_law 658 = .ok (.aload_n 1, 1) := by decide +kernel
theorem d_L_law_659 : decode c_L_law 659 = .ok (.aload_n 3, 1) := by decide +kernel
theorem d_L_law_660 : decode c_L_law 660 = .ok (.invokestatic 104, 3) := by decide +kernel
theorem d_L_law_663 : decode c_L_law 663 = .ok (.istore 5, 2) := by decide +kernel
theorem d_L_law_665 : decode c_L_law 665 = .ok (.aload_n 2, 1) := by decide +kernel
theorem d_L_law_666 : decode c_L_law 666 = .ok (.invokevirtual 107, 3) := by decide +kernel
theorem d_L_law_669 : decode c_L_law 669 = .ok (.istore 6, 2) := by decide +kernel
theorem d_L_law_671 : decode c_L_law 671 = .ok (.aload_n 2, 1) := by decide +kernel
theorem d_L_law_672 : decode c_L_law 672 = .ok (.invokevirtual 75, 3) := by decide +kernel
theorem d_L_law_675 : decode c_L_law 675 = .ok (.iload 5, 2) := by decide +kernel
theorem d_L_law_677 : decode c_L_law 677 = .ok (.if_icmp .eq 5, 3) := by decide +kernel
theorem d_L_law_680 : decode c_L_law 680 = .ok (.iconst 0, 1) := by decide +kernel
theorem d_L_law_681 : decode c_L_law 681 = .ok (.ireturn, 1) := by decide +kernel
theorem d_L_law_682 : decode c_L_law 682 = .ok (.iload 5, 2) := by decide +kernel
theorem d_L_law_684 : decode c_L_law 684 = .ok (.ifCond .ne 15, 3) := by decide +kernel
theorem d_L_law_687 : decode c_L_law 687 = .ok (.aload_n 3, 1) := by decide +kernel
theorem d_L_law_688 : decode c_L_law 688 = .ok (.iconst 0, 1) := by decide +kernel
theorem d_L_law_689 : decode c_L_law 689 = .ok (.laload, 1) := by decide +kernel
theorem d_L_law_690 : decode c_L_law 690 = .ok (.iload 6, 2) := by decide +kernel
theorem d_L_law_692 : decode c_L_law 692 = .ok (.i2l, 1) := by decide +kernel
theorem d_L_law_693 : decode c_L_law 693 = .ok (.lcmp, 1) := by decide +kernel
theorem d_L_law_694 : decode c_L_law 694 = .ok (.ifCond .eq 5, 3) := by decide +kernel
theorem d_L_law_697 : decode c_L_law 697 = .ok (.iconst 0, 1) := by decide +kernel
theorem d_L_law_698 : decode c_L_law 698 = .ok (.ireturn, 1) := by decide +kernel
theorem d_L_law_699 : decode c_L_law 699 = .ok (.goto 521, 3) := by decide +kernel
theorem d_L_law_702 : decode c_L_law 702 = .ok (.aload_n 1, 1) := by decide +kernel
theorem d_L_law_703 : decode c_L_law 703 = .ok (.aload_n 3, 1) := by decide +kernel
theorem d_L_law_704 : decode c_L_law 704 = .ok (.invokestatic 108, 3) := by decide +kernel
theorem d_L_law_707 : decode c_L_law 707 = .ok (.istore 5, 2) := by decide +kernel
theorem d_L_law_709 : decode c_L_law 709 = .ok (.aload_n 2, 1) := by decide +kernel
theorem d_L_law_710 : decode c_L_law 710 = .ok (.invokevirtual 110, 3) := by decide +kernel
theorem d_L_law_713 : decode c_L_law 713 = .ok (.istore 6, 2) := by decide +kernel
theorem d_L_law_715 : decode c_L_law 715 = .ok (.aload_n 2, 1) := by decide +kernel
theorem d_L_law_716 : decode c_L_law 716 = .ok (.invokevirtual 75, 3) := by decide +kernel
theorem d_L_law_719 : decode c_L_law 719 = .ok (.iload 5, 2) := by decide +kernel
theorem d_L_law_721 : decode c_L_law 721 = .ok (.if_icmp .eq 5, 3) := by decide +kernel
theorem d_L_law_724 : decode c_L_law 724 = .ok (.iconst 0, 1) := by decide +kernel
theorem d_L_law_725 : decode c_L_law 725 = .ok (.ireturn, 1) := by decide +kernel
theorem d_L_law_726 : decode c_L_law 726 = .ok (.iload 5, 2) := by decide +kernel
theorem d_L_law_728 : decode c_L_law 728 = .ok (.ifCond .ne 15, 3) := by decide +kernel
theorem d_L_law_731 : decode c_L_law 731 = .ok (.aload_n 3, 1) := by decide +kernel
theorem d_L_law_732 : decode c_L_law 732 = .ok (.iconst 0, 1) := by decide +kernel
theorem d_L_law_733 : decode c_L_law 733 = .ok (.laload, 1) := by decide +kernel
theorem d_L_law_734 : decode c_L_law 734 = .ok (.iload 6, 2) := by decide +kernel
theorem d_L_law_736 : decode c_L_law 736 = .ok (.i2l, 1) := by decide +kernel
theorem d_L_law_737 : decode c_L_law 737 = .ok (.lcmp, 1) := by decide +kernel
theorem d_L_law_738 : decode c_L_law 738 = .ok (.ifCond .eq 5, 3) := by decide +kernel
theorem d_L_law_741 : decode c_L_law 741 = .ok (.iconst 0, 1) := by decide +kernel
theorem d_L_law_742 : decode c_L_law 742 = .ok (.ireturn, 1) := by decide +kernel
theorem d_L_law_743 : decode c_L_law 743 = .ok (.goto 477, 3) := by decide +kernel
theorem d_L_law_746 : decode c_L_law 746 = .ok (.aload_n 1, 1) := by decide +kernel
theorem d_L_law_747 : decode c_L_law 747 = .ok (.aload_n 3, 1) := by decide +kernel
theorem d_L_law_748 : decode c_L_law 748 = .ok (.invokestatic 111, 3) := by decide +kernel
theorem d_L_law_751 : decode c_L_law 751 = .ok (.istore 5, 2) := by decide +kernel
theorem d_L_law_753 : decode c_L_law 753 = .ok (.aload_n 2, 1) := by decide +kernel
theorem d_L_law_754 : decode c_L_law 754 = .ok (.invokevirtual 113, 3) := by decide +kernel
theorem d_L_law_757 : decode c_L_law 757 = .ok (.istore 6, 2) := by decide +kernel
theorem d_L_law_759 : decode c_L_law 759 = .ok (.aload_n 2, 1) := by decide +kernel
theorem d_L_law_760 : decode c_L_law 760 = .ok (.invokevirtual 75, 3) := by decide +kernel
theorem d_L_law_763 : decode c_L_law 763 = .ok (.iload 5, 2) := by decide +kernel
theorem d_L_law_765 : decode c_L_law 765 = .ok (.if_icmp .eq 5, 3) := by decide +kernel
theorem d_L_law_768 : decode c_L_law 768 = .ok (.iconst 0, 1) := by decide +kernel
theorem d_L_law_769 : decode c_L_law 769 = .ok (.ireturn, 1) := by decide +kernel
theorem d_L_law_770 : decode c_L_law 770 = .ok (.iload 5, 2) := by decide +kernel
theorem d_L_law_772 : decode c_L_law 772 = .ok (.ifCond .ne 15, 3) := by decide +kernel
theorem d_L_law_775 : decode c_L_law 775 = .ok (.aload_n 3, 1) := by decide +kernel
theorem d_L_law_776 : decode c_L_law 776 = .ok (.iconst 0, 1) := by decide +kernel
theorem d_L_law_777 : decode c_L_law 777 = .ok (.laload, 1) := by decide +kernel
theorem d_L_law_778 : decode c_L_law 778 = .ok (.iload 6, 2) := by decide +kernel
theorem d_L_law_780 : decode c_L_law 780 = .ok (.i2l, 1) := by decide +kernel
theorem d_L_law_781 : decode c_L_law 781 = .ok (.lcmp, 1) := by decide +kernel
theorem d_L_law_782 : decode c_L_law 782 = .ok (.ifCond .eq 5, 3) := by decide +kernel
theorem d_L_law_785 : decode c_L_law 785 = .ok (.iconst 0, 1) := by decide +kernel
theorem d_L_law_786 : decode c_L_law 786 = .ok (.ireturn, 1) := by decide +kernel
theorem d_L_law_787 : decode c_L_law 787 = .ok (.goto 433, 3) := by decide +kernel
theorem d_L_law_790 : decode c_L_law 790 = .ok (.aload_n 1, 1) := by decide +kernel
theorem d_L_law_791 : decode c_L_law 791 = .ok (.aload_n 3, 1) := by decide +kernel
theorem d_L_law_792 : decode c_L_law 792 = .ok (.invokestatic 114, 3) := by decide +kernel
theorem d_L_law_795 : decode c_L_law 795 = .ok (.istore 5, 2) := by decide +kernel
theorem d_L_law_797 : decode c_L_law 797 = .ok (.aload_n 2, 1) := by decide +kernel
theorem d_L_law_798 : decode c_L_law 798 = .ok (.invokevirtual 116, 3) := by decide +kernel
theorem d_L_law_801 : decode c_L_law 801 = .ok (.istore 6, 2) := by decide +kernel
theorem d_L_law_803 : decode c_L_law 803 = .ok (.aload_n 2, 1) := by decide +kernel
theorem d_L_law_804 : decode c_L_law 804 = .ok (.invokevirtual 75, 3) := by decide +kernel
theorem d_L_law_807 : decode c_L_law 807 = .ok (.iload 5, 2) := by decide +kernel
theorem d_L_law_809 : decode c_L_law 809 = .ok (.if_icmp .eq 5, 3) := by decide +kernel
theorem d_L_law_812 : decode c_L_law 812 = .ok (.iconst 0, 1) := by decide +kernel
theorem d_L_law_813 : decode c_L_law 813 = .ok (.ireturn, 1) := by decide +kernel
theorem d_L_law_814 : decode c_L_law 814 = .ok (.iload 5, 2) := by decide +kernel
theorem d_L_law_816 : decode c_L_law 816 = .ok (.ifCond .ne 15, 3) := by decide +kernel
theorem d_L_law_819 : decode c_L_law 819 = .ok (.aload_n 3, 1) := by decide +kernel
theorem d_L_law_820 : decode c_L_law 820 = .ok (.iconst 0, 1) := by decide +kernel
theorem d_L_law_821 : decode c_L_law 821 = .ok (.laload, 1) := by decide +kernel
theorem d_L_law_822 : decode c_L_law 822 = .ok (.iload 6, 2) := by decide +kernel
theorem d_L_law_824 : decode c_L_law 824 = .ok (.i2l, 1) := by decide +kernel
theorem d_L_law_825 : decode c_L_law 825 = .ok (.lcmp, 1) := by decide +kernel
theorem d_L_law_826 : decode c_L_law 826 = .ok (.ifCond .eq 5, 3) := by decide +kernel
theorem d_L_law_829 : decode c_L_law 829 = .ok (.iconst 0, 1) := by decide +kernel
theorem d_L_law_830 : decode c_L_law 830 = .ok (.ireturn, 1) := by decide +kernel
theorem d_L_law_831 : decode c_L_law 831 = .ok (.goto 389, 3) := by decide +kernel
theorem d_L_law_834 : decode c_L_law 834 = .ok (.aload_n 1, 1) := by decide +kernel
theorem d_L_law_835 : decode c_L_law 835 = .ok (.invokevirtual 117, 3) := by decide +kernel
theorem d_L_law_838 : decode c_L_law 838 = .ok (.aload_n 2, 1) := by decide +kernel
theorem d_L_law_839 : decode c_L_law 839 = .ok (.invokevirtual 120, 3) := by decide +kernel
theorem d_L_law_842 : decode c_L_law 842 = .ok (.if_icmp .eq 378, 3) := by decide +kernel
theorem d_L_law_845 : decode c_L_law 845 = .ok (.iconst 0, 1) := by decide +kernel
theorem d_L_law_846 : decode c_L_law 846 = .ok (.ireturn, 1) := by decide +kernel
theorem d_L_law_847 : decode c_L_law 847 = .ok (.aload_n 1, 1) := by decide +kernel
theorem d_L_law_848 : decode c_L_law 848 = .ok (.aload_n 0, 1) := by decide +kernel
theorem d_L_law_849 : decode c_L_law 849 = .ok (.iload 4, 2) := by decide +kernel
theorem d_L_law_851 : decode c_L_law 851 = .ok (.iconst 1, 1) := by decide +kernel
theorem d_L_law_852 : decode c_L_law 852 = .ok (.iadd, 1) := by decide +kernel
theorem d_L_law_853 : decode c_L_law 853 = .ok (.iaload, 1) := by decide +kernel
theorem d_L_law_854 : decode c_L_law 854 = .ok (.aload_n 3, 1) := by decide +kernel
theorem d_L_law_855 : decode c_L_law 855 = .ok (.invokestatic 121, 3) := by decide +kernel
theorem d_L_law_858 : decode c_L_law 858 = .ok (.istore 5, 2) := by decide +kernel
theorem d_L_law_860 : decode c_L_law 860 = .ok (.aload_n 2, 1) := by decide +kernel
theorem d_L_law_861 : decode c_L_law 861 = .ok (.aload_n 0, 1) := by decide +kernel
theorem d_L_law_862 : decode c_L_law 862 = .ok (.iload 4, 2) := by decide +kernel
theorem d_L_law_864 : decode c_L_law 864 = .ok (.iconst 1, 1) := by decide +kernel
theorem d_L_law_865 : decode c_L_law 865 = .ok (.iadd, 1) := by decide +kernel
theorem d_L_law_866 : decode c_L_law 866 = .ok (.iaload, 1) := by decide +kernel
theorem d_L_law_867 : decode c_L_law 867 = .ok (.invokevirtual 123, 3) := by decide +kernel
theorem d_L_law_870 : decode c_L_law 870 = .ok (.istore 6, 2) := by decide +kernel
theorem d_L_law_872 : decode c_L_law 872 = .ok (.aload_n 2, 1) := by decide +kernel
theorem d_L_law_873 : decode c_L_law 873 = .ok (.invokevirtual 75, 3) := by decide +kernel
theorem d_L_law_876 : decode c_L_law 876 = .ok (.iload 5, 2) := by decide +kernel
theorem d_L_law_878 : decode c_L_law 878 = .ok (.if_icmp .eq 5, 3) := by decide +kernel
theorem d_L_law_881 : decode c_L_law 881 = .ok (.iconst 0, 1) := by decide +kernel
theorem d_L_law_882 : decode c_L_law 882 = .ok (.ireturn, 1) := by decide +kernel
theorem d_L_law_883 : decode c_L_law 883 = .ok (.iload 5, 2) := by decide +kernel
theorem d_L_law_885 : decode c_L_law 885 = .ok (.ifCond .ne 15, 3) := by decide +kernel
theorem d_L_law_888 : decode c_L_law 888 = .ok (.aload_n 3, 1) := by decide +kernel
theorem d_L_law_889 : decode c_L_law 889 = .ok (.iconst 0, 1) := by decide +kernel
theorem d_L_law_890 : decode c_L_law 890 = .ok (.laload, 1) := by decide +kernel
theorem d_L_law_891 : decode c_L_law 891 = .ok (.iload 6, 2) := by decide +kernel
theorem d_L_law_893 : decode c_L_law 893 = .ok (.i2l, 1) := by decide +kernel
theorem d_L_law_894 : decode c_L_law 894 = .ok (.lcmp, 1) := by decide +kernel
theorem d_L_law_895 : decode c_L_law 895 = .ok (.ifCond .eq 5, 3) := by decide +kernel
theorem d_L_law_898 : decode c_L_law 898 = .ok (.iconst 0, 1) := by decide +kernel
theorem d_L_law_899 : decode c_L_law 899 = .ok (.ireturn, 1) := by decide +kernel
theorem d_L_law_900 : decode c_L_law 900 = .ok (.goto 320, 3) := by decide +kernel
theorem d_L_law_903 : decode c_L_law 903 = .ok (.aload_n 1, 1) := by decide +kernel
theorem d_L_law_904 : decode c_L_law 904 = .ok (.aload_n 0, 1) := by decide +kernel
theorem d_L_law_905 : decode c_L_law 905 = .ok (.iload 4, 2) := by decide +kernel
theorem d_L_law_907 : decode c_L_law 907 = .ok (.iconst 1, 1) := by decide +kernel
theorem d_L_law_908 : decode c_L_law 908 = .ok (.iadd, 1) := by decide +kernel
theorem d_L_law_909 : decode c_L_law 909 = .ok (.iaload, 1) := by decide +kernel
theorem d_L_law_910 : decode c_L_law 910 = .ok (.aload_n 3, 1) := by decide +kernel
theorem d_L_law_911 : decode c_L_law 911 = .ok (.invokestatic 124, 3) := by decide +kernel
theorem d_L_law_914 : decode c_L_law 914 = .ok (.istore 5, 2) := by decide +kernel
theorem d_L_law_916 : decode c_L_law 916 = .ok (.aload_n 2, 1) := by decide +kernel
theorem d_L_law_917 : decode c_L_law 917 = .ok (.aload_n 0, 1) := by decide +kernel
theorem d_L_law_918 : decode c_L_law 918 = .ok (.iload 4, 2) := by decide +kernel
theorem d_L_law_920 : decode c_L_law 920 = .ok (.iconst 1, 1) := by decide +kernel
theorem d_L_law_921 : decode c_L_law 921 = .ok (.iadd, 1) := by decide +kernel
theorem d_L_law_922 : decode c_L_law 922 = .ok (.iaload, 1) := by decide +kernel
theorem d_L_law_923 : decode c_L_law 923 = .ok (.invokevirtual 126, 3) := by decide +kernel
theorem d_L_law_926 : decode c_L_law 926 = .ok (.istore 6, 2) := by decide +kernel
theorem d_L_law_928 : decode c_L_law 928 = .ok (.aload_n 2, 1) := by decide +kernel
theorem d_L_law_929 : decode c_L_law 929 = .ok (.invokevirtual 75, 3) := by decide +kernel
theorem d_L_law_932 : decode c_L_law 932 = .ok (.iload 5, 2) := by decide +kernel
theorem d_L_law_934 : decode c_L_law 934 = .ok (.if_icmp .eq 5, 3) := by decide +kernel
theorem d_L_law_937 : decode c_L_law 937 = .ok (.iconst 0, 1) := by decide +kernel
theorem d_L_law_938 : decode c_L_law 938 = .ok (.ireturn, 1) := by decide +kernel
theorem d_L_law_939 : decode c_L_law 939 = .ok (.iload 5, 2) := by decide +kernel
theorem d_L_law_941 : decode c_L_law 941 = .ok (.ifCond .ne 15, 3) := by decide +kernel
theorem d_L_law_944 : decode c_L_law 944 = .ok (.aload_n 3, 1) := by decide +kernel
theorem d_L_law_945 : decode c_L_law 945 = .ok (.iconst 0, 1) := by decide +kernel
theorem d_L_law_946 : decode c_L_law 946 = .ok (.laload, 1) := by decide +kernel
theorem d_L_law_947 : decode c_L_law 947 = .ok (.iload 6, 2) := by decide +kernel
theorem d_L_law_949 : decode c_L_law 949 = .ok (.i2l, 1) := by decide +kernel
theorem d_L_law_950 : decode c_L_law 950 = .ok (.lcmp, 1) := by decide +kernel
theorem d_L_law_951 : decode c_L_law 951 = .ok (.ifCond .eq 5, 3) := by decide +kernel
theorem d_L_law_954 : decode c_L_law 954 = .ok (.iconst 0, 1) := by decide +kernel
theorem d_L_law_955 : decode c_L_law 955 = .ok (.ireturn, 1) := by decide +kernel
theorem d_L_law_956 : decode c_L_law 956 = .ok (.goto 264, 3) := by decide +kernel
theorem d_L_law_959 : decode c_L_law 959 = .ok (.aload_n 1, 1) := by decide +kernel
theorem d_L_law_960 : decode c_L_law 960 = .ok (.aload_n 0, 1) := by decide +kernel
theorem d_L_law_961 : decode c_L_law 961 = .ok (.iload 4, 2) := by decide +kernel
theorem d_L_law_963 : decode c_L_law 963 = .ok (.iconst 1, 1) := by decide +kernel
theorem d_L_law_964 : decode c_L_law 964 = .ok (.iadd, 1) := by decide +kernel
theorem d_L_law_965 : decode c_L_law 965 = .ok (.iaload, 1) := by decide +kernel
theorem d_L_law_966 : decode c_L_law 966 = .ok (.aload_n 3, 1) := by decide +kernel
theorem d_L_law_967 : decode c_L_law 967 = .ok (.invokestatic 127, 3) := by decide +kernel
theorem d_L_law_970 : decode c_L_law 970 = .ok (.istore 5, 2) := by decide +kernel
theorem d_L_law_972 : decode c_L_law 972 = .ok (.aload_n 2, 1) := by decide +kernel
theorem d_L_law_973 : decode c_L_law 973 = .ok (.aload_n 0, 1) := by decide +kernel
theorem d_L_law_974 : decode c_L_law 974 = .ok (.iload 4, 2) := by decide +kernel
theorem d_L_law_976 : decode c_L_law 976 = .ok (.iconst 1, 1) := by decide +kernel
theorem d_L_law_977 : decode c_L_law 977 = .ok (.iadd, 1) := by decide +kernel
theorem d_L_law_978 : decode c_L_law 978 = .ok (.iaload, 1) := by decide +kernel
theorem d_L_law_979 : decode c_L_law 979 = .ok (.invokevirtual 129, 3) := by decide +kernel
theorem d_L_law_982 : decode c_L_law 982 = .ok (.istore 6, 2) := by decide +kernel
theorem d_L_law_984 : decode c_L_law 984 = .ok (.aload_n 2, 1) := by decide +kernel
theorem d_L_law_985 : decode c_L_law 985 = .ok (.invokevirtual 75, 3) := by decide +kernel
theorem d_L_law_988 : decode c_L_law 988 = .ok (.iload 5, 2) := by decide +kernel
theorem d_L_law_990 : decode c_L_law 990 = .ok (.if_icmp .eq 5, 3) := by decide +kernel
theorem d_L_law_993 : decode c_L_law 993 = .ok (.iconst 0, 1) := by decide +kernel
theorem d_L_law_994 : decode c_L_law 994 = .ok (.ireturn, 1) := by decide +kernel
theorem d_L_law_995 : decode c_L_law 995 = .ok (.iload 5, 2) := by decide +kernel
theorem d_L_law_997 : decode c_L_law 997 = .ok (.ifCond .ne 15, 3) := by decide +kernel
theorem d_L_law_1000 : decode c_L_law 1000 = .ok (.aload_n 3, 1) := by decide +kernel
theorem d_L_law_1001 : decode c_L_law 1001 = .ok (.iconst 0, 1) := by decide +kernel
theorem d_L_law_1002 : decode c_L_law 1002 = .ok (.laload, 1) := by decide +kernel
theorem d_L_law_1003 : decode c_L_law 1003 = .ok (.iload 6, 2) := by decide +kernel
theorem d_L_law_1005 : decode c_L_law 1005 = .ok (.i2l, 1) := by decide +kernel
theorem d_L_law_1006 : decode c_L_law 1006 = .ok (.lcmp, 1) := by decide +kernel
theorem d_L_law_1007 : decode c_L_law 1007 = .ok (.ifCond .eq 5, 3) := by decide +kernel
theorem d_L_law_1010 : decode c_L_law 1010 = .ok (.iconst 0, 1) := by decide +kernel
theorem d_L_law_1011 : decode c_L_law 1011 = .ok (.ireturn, 1) := by decide +kernel
theorem d_L_law_1012 : decode c_L_law 1012 = .ok (.goto 208, 3) := by decide +kernel
theorem d_L_law_1015 : decode c_L_law 1015 = .ok (.aload_n 1, 1) := by decide +kernel
theorem d_L_law_1016 : decode c_L_law 1016 = .ok (.aload_n 0, 1) := by decide +kernel
theorem d_L_law_1017 : decode c_L_law 1017 = .ok (.iload 4, 2) := by decide +kernel
theorem d_L_law_1019 : decode c_L_law 1019 = .ok (.iconst 1, 1) := by decide +kernel
theorem d_L_law_1020 : decode c_L_law 1020 = .ok (.iadd, 1) := by decide +kernel
theorem d_L_law_1021 : decode c_L_law 1021 = .ok (.iaload, 1) := by decide +kernel
theorem d_L_law_1022 : decode c_L_law 1022 = .ok (.aload_n 0, 1) := by decide +kernel
theorem d_L_law_1023 : decode c_L_law 1023 = .ok (.iload 4, 2) := by decide +kernel
theorem d_L_law_1025 : decode c_L_law 1025 = .ok (.iconst 2, 1) := by decide +kernel
theorem d_L_law_1026 : decode c_L_law 1026 = .ok (.iadd, 1) := by decide +kernel
theorem d_L_law_1027 : decode c_L_law 1027 = .ok (.iaload, 1) := by decide +kernel
theorem d_L_law_1028 : decode c_L_law 1028 = .ok (.aload_n 0, 1) := by decide +kernel
theorem d_L_law_1029 : decode c_L_law 1029 = .ok (.iload 4, 2) := by decide +kernel
theorem d_L_law_1031 : decode c_L_law 1031 = .ok (.iconst 3, 1) := by decide +kernel
theorem d_L_law_1032 : decode c_L_law 1032 = .ok (.iadd, 1) := by decide +kernel
theorem d_L_law_1033 : decode c_L_law 1033 = .ok (.iaload, 1) := by decide +kernel
theorem d_L_law_1034 : decode c_L_law 1034 = .ok (.aload_n 3, 1) := by decide +kernel
theorem d_L_law_1035 : decode c_L_law 1035 = .ok (.invokestatic 130, 3) := by decide +kernel
theorem d_L_law_1038 : decode c_L_law 1038 = .ok (.istore 5, 2) := by decide +kernel
theorem d_L_law_1040 : decode c_L_law 1040 = .ok (.aload_n 2, 1) := by decide +kernel
theorem d_L_law_1041 : decode c_L_law 1041 = .ok (.aload_n 0, 1) := by decide +kernel
theorem d_L_law_1042 : decode c_L_law 1042 = .ok (.iload 4, 2) := by decide +kernel
theorem d_L_law_1044 : decode c_L_law 1044 = .ok (.iconst 1, 1) := by decide +kernel
theorem d_L_law_1045 : decode c_L_law 1045 = .ok (.iadd, 1) := by decide +kernel
theorem d_L_law_1046 : decode c_L_law 1046 = .ok (.iaload, 1) := by decide +kernel
theorem d_L_law_1047 : decode c_L_law 1047 = .ok (.aload_n 0, 1) := by decide +kernel
theorem d_L_law_1048 : decode c_L_law 1048 = .ok (.iload 4, 2) := by decide +kernel
theorem d_L_law_1050 : decode c_L_law 1050 = .ok (.iconst 2, 1) := by decide +kernel
theorem d_L_law_1051 : decode c_L_law 1051 = .ok (.iadd, 1) := by decide +kernel
theorem d_L_law_1052 : decode c_L_law 1052 = .ok (.iaload, 1) := by decide +kernel
theorem d_L_law_1053 : decode c_L_law 1053 = .ok (.aload_n 0, 1) := by decide +kernel
theorem d_L_law_1054 : decode c_L_law 1054 = .ok (.iload 4, 2) := by decide +kernel
theorem d_L_law_1056 : decode c_L_law 1056 = .ok (.iconst 3, 1) := by decide +kernel
theorem d_L_law_1057 : decode c_L_law 1057 = .ok (.iadd, 1) := by decide +kernel
theorem d_L_law_1058 : decode c_L_law 1058 = .ok (.iaload, 1) := by decide +kernel
theorem d_L_law_1059 : decode c_L_law 1059 = .ok (.invokevirtual 132, 3) := by decide +kernel
theorem d_L_law_1062 : decode c_L_law 1062 = .ok (.istore 6, 2) := by decide +kernel
theorem d_L_law_1064 : decode c_L_law 1064 = .ok (.aload_n 2, 1) := by decide +kernel
theorem d_L_law_1065 : decode c_L_law 1065 = .ok (.invokevirtual 75, 3) := by decide +kernel
theorem d_L_law_1068 : decode c_L_law 1068 = .ok (.iload 5, 2) := by decide +kernel
theorem d_L_law_1070 : decode c_L_law 1070 = .ok (.if_icmp .eq 5, 3) := by decide +kernel
theorem d_L_law_1073 : decode c_L_law 1073 = .ok (.iconst 0, 1) := by decide +kernel
theorem d_L_law_1074 : decode c_L_law 1074 = .ok (.ireturn, 1) := by decide +kernel
theorem d_L_law_1075 : decode c_L_law 1075 = .ok (.iload 5, 2) := by decide +kernel
theorem d_L_law_1077 : decode c_L_law 1077 = .ok (.ifCond .ne 15, 3) := by decide +kernel
theorem d_L_law_1080 : decode c_L_law 1080 = .ok (.aload_n 3, 1) := by decide +kernel
theorem d_L_law_1081 : decode c_L_law 1081 = .ok (.iconst 0, 1) := by decide +kernel
theorem d_L_law_1082 : decode c_L_law 1082 = .ok (.laload, 1) := by decide +kernel
theorem d_L_law_1083 : decode c_L_law 1083 = .ok (.iload 6, 2) := by decide +kernel
theorem d_L_law_1085 : decode c_L_law 1085 = .ok (.i2l, 1) := by decide +kernel
theorem d_L_law_1086 : decode c_L_law 1086 = .ok (.lcmp, 1) := by decide +kernel
theorem d_L_law_1087 : decode c_L_law 1087 = .ok (.ifCond .eq 5, 3) := by decide +kernel
theorem d_L_law_1090 : decode c_L_law 1090 = .ok (.iconst 0, 1) := by decide +kernel
theorem d_L_law_1091 : decode c_L_law 1091 = .ok (.ireturn, 1) := by decide +kernel
theorem d_L_law_1092 : decode c_L_law 1092 = .ok (.goto 128, 3) := by decide +kernel
theorem d_L_law_1095 : decode c_L_law 1095 = .ok (.aload_n 1, 1) := by decide +kernel
theorem d_L_law_1096 : decode c_L_law 1096 = .ok (.aload_n 0, 1) := by decide +kernel
theorem d_L_law_1097 : decode c_L_law 1097 = .ok (.iload 4, 2) := by decide +kernel
theorem d_L_law_1099 : decode c_L_law 1099 = .ok (.iconst 1, 1) := by decide +kernel
theorem d_L_law_1100 : decode c_L_law 1100 = .ok (.iadd, 1) := by decide +kernel
theorem d_L_law_1101 : decode c_L_law 1101 = .ok (.iaload, 1) := by decide +kernel
theorem d_L_law_1102 : decode c_L_law 1102 = .ok (.i2l, 1) := by decide +kernel
theorem d_L_law_1103 : decode c_L_law 1103 = .ok (.bipush 32, 2) := by decide +kernel
theorem d_L_law_1105 : decode c_L_law 1105 = .ok (.lshl, 1) := by decide +kernel
theorem d_L_law_1106 : decode c_L_law 1106 = .ok (.aload_n 0, 1) := by decide +kernel
theorem d_L_law_1107 : decode c_L_law 1107 = .ok (.iload 4, 2) := by decide +kernel
theorem d_L_law_1109 : decode c_L_law 1109 = .ok (.iconst 2, 1) := by decide +kernel
theorem d_L_law_1110 : decode c_L_law 1110 = .ok (.iadd, 1) := by decide +kernel
theorem d_L_law_1111 : decode c_L_law 1111 = .ok (.iaload, 1) := by decide +kernel
theorem d_L_law_1112 : decode c_L_law 1112 = .ok (.i2l, 1) := by decide +kernel
theorem d_L_law_1113 : decode c_L_law 1113 = .ok (.ldc2_w 78, 3) := by decide +kernel
theorem d_L_law_1116 : decode c_L_law 1116 = .ok (.land, 1) := by decide +kernel
theorem d_L_law_1117 : decode c_L_law 1117 = .ok (.lor, 1) := by decide +kernel
theorem d_L_law_1118 : decode c_L_law 1118 = .ok (.aload_n 0, 1) := by decide +kernel
theorem d_L_law_1119 : decode c_L_law 1119 = .ok (.iload 4, 2) := by decide +kernel
theorem d_L_law_1121 : decode c_L_law 1121 = .ok (.iconst 3, 1) := by decide +kernel
theorem d_L_law_1122 : decode c_L_law 1122 = .ok (.iadd, 1) := by decide +kernel
theorem d_L_law_1123 : decode c_L_law 1123 = .ok (.iaload, 1) := by decide +kernel
theorem d_L_law_1124 : decode c_L_law 1124 = .ok (.aload_n 0, 1) := by decide +kernel
theorem d_L_law_1125 : decode c_L_law 1125 = .ok (.iload 4, 2) := by decide +kernel
theorem d_L_law_1127 : decode c_L_law 1127 = .ok (.iconst 4, 1) := by decide +kernel
theorem d_L_law_1128 : decode c_L_law 1128 = .ok (.iadd, 1) := by decide +kernel
theorem d_L_law_1129 : decode c_L_law 1129 = .ok (.iaload, 1) := by decide +kernel
theorem d_L_law_1130 : decode c_L_law 1130 = .ok (.aload_n 3, 1) := by decide +kernel
theorem d_L_law_1131 : decode c_L_law 1131 = .ok (.invokestatic 133, 3) := by decide +kernel
theorem d_L_law_1134 : decode c_L_law 1134 = .ok (.istore 5, 2) := by decide +kernel
theorem d_L_law_1136 : decode c_L_law 1136 = .ok (.aload_n 2, 1) := by decide +kernel
theorem d_L_law_1137 : decode c_L_law 1137 = .ok (.aload_n 0, 1) := by decide +kernel
theorem d_L_law_1138 : decode c_L_law 1138 = .ok (.iload 4, 2) := by decide +kernel
theorem d_L_law_1140 : decode c_L_law 1140 = .ok (.iconst 1, 1) := by decide +kernel
theorem d_L_law_1141 : decode c_L_law 1141 = .ok (.iadd, 1) := by decide +kernel
theorem d_L_law_1142 : decode c_L_law 1142 = .ok (.iaload, 1) := by decide +kernel
theorem d_L_law_1143 : decode c_L_law 1143 = .ok (.i2l, 1) := by decide +kernel
theorem d_L_law_1144 : decode c_L_law 1144 = .ok (.bipush 32, 2) := by decide +kernel
theorem d_L_law_1146 : decode c_L_law 1146 = .ok (.lshl, 1) := by decide +kernel
theorem d_L_law_1147 : decode c_L_law 1147 = .ok (.aload_n 0, 1) := by decide +kernel
theorem d_L_law_1148 : decode c_L_law 1148 = .ok (.iload 4, 2) := by decide +kernel
theorem d_L_law_1150 : decode c_L_law 1150 = .ok (.iconst 2, 1) := by decide +kernel
theorem d_L_law_1151 : decode c_L_law 1151 = .ok (.iadd, 1) := by decide +kernel
theorem d_L_law_1152 : decode c_L_law 1152 = .ok (.iaload, 1) := by decide +kernel
theorem d_L_law_1153 : decode c_L_law 1153 = .ok (.i2l, 1) := by decide +kernel
theorem d_L_law_1154 : decode c_L_law 1154 = .ok (.ldc2_w 78, 3) := by decide +kernel
theorem d_L_law_1157 : decode c_L_law 1157 = .ok (.land, 1) := by decide +kernel
theorem d_L_law_1158 : decode c_L_law 1158 = .ok (.lor, 1) := by decide +kernel
theorem d_L_law_1159 : decode c_L_law 1159 = .ok (.aload_n 0, 1) := by decide +kernel
theorem d_L_law_1160 : decode c_L_law 1160 = .ok (.iload 4, 2) := by decide +kernel
theorem d_L_law_1162 : decode c_L_law 1162 = .ok (.iconst 3, 1) := by decide +kernel
theorem d_L_law_1163 : decode c_L_law 1163 = .ok (.iadd, 1) := by decide +kernel
theorem d_L_law_1164 : decode c_L_law 1164 = .ok (.iaload, 1) := by decide +kernel
theorem d_L_law_1165 : decode c_L_law 1165 = .ok (.aload_n 0, 1) := by decide +kernel
theorem d_L_law_1166 : decode c_L_law 1166 = .ok (.iload 4, 2) := by decide +kernel
theorem d_L_law_1168 : decode c_L_law 1168 = .ok (.iconst 4, 1) := by decide +kernel
theorem d_L_law_1169 : decode c_L_law 1169 = .ok (.iadd, 1) := by decide +kernel
theorem d_L_law_1170 : decode c_L_law 1170 = .ok (.iaload, 1) := by decide +kernel
theorem d_L_law_1171 : decode c_L_law 1171 = .ok (.invokevirtual 135, 3) := by decide +kernel
theorem d_L_law_1174 : decode c_L_law 1174 = .ok (.istore 6, 2) := by decide +kernel
theorem d_L_law_1176 : decode c_L_law 1176 = .ok (.aload_n 2, 1) := by decide +kernel
theorem d_L_law_1177 : decode c_L_law 1177 = .ok (.invokevirtual 75, 3) := by decide +kernel
theorem d_L_law_1180 : decode c_L_law 1180 = .ok (.iload 5, 2) := by decide +kernel
theorem d_L_law_1182 : decode c_L_law 1182 = .ok (.if_icmp .eq 5, 3) := by decide +kernel
theorem d_L_law_1185 : decode c_L_law 1185 = .ok (.iconst 0, 1) := by decide +kernel
theorem d_L_law_1186 : decode c_L_law 1186 = .ok (.ireturn, 1) := by decide +kernel
theorem d_L_law_1187 : decode c_L_law 1187 = .ok (.iload 5, 2) := by decide +kernel
theorem d_L_law_1189 : decode c_L_law 1189 = .ok (.ifCond .ne 15, 3) := by decide +kernel
theorem d_L_law_1192 : decode c_L_law 1192 = .ok (.aload_n 3, 1) := by decide +kernel
theorem d_L_law_1193 : decode c_L_law 1193 = .ok (.iconst 0, 1) := by decide +kernel
theorem d_L_law_1194 : decode c_L_law 1194 = .ok (.laload, 1) := by decide +kernel
theorem d_L_law_1195 : decode c_L_law 1195 = .ok (.iload 6, 2) := by decide +kernel
theorem d_L_law_1197 : decode c_L_law 1197 = .ok (.i2l, 1) := by decide +kernel
theorem d_L_law_1198 : decode c_L_law 1198 = .ok (.lcmp, 1) := by decide +kernel
theorem d_L_law_1199 : decode c_L_law 1199 = .ok (.ifCond .eq 5, 3) := by decide +kernel
theorem d_L_law_1202 : decode c_L_law 1202 = .ok (.iconst 0, 1) := by decide +kernel
theorem d_L_law_1203 : decode c_L_law 1203 = .ok (.ireturn, 1) := by decide +kernel
theorem d_L_law_1204 : decode c_L_law 1204 = .ok (.goto 16, 3) := by decide +kernel
theorem d_L_law_1207 : decode c_L_law 1207 = .ok (.aload_n 1, 1) := by decide +kernel
theorem d_L_law_1208 : decode c_L_law 1208 = .ok (.invokevirtual 136, 3) := by decide +kernel
theorem d_L_law_1211 : decode c_L_law 1211 = .ok (.aload_n 2, 1) := by decide +kernel
theorem d_L_law_1212 : decode c_L_law 1212 = .ok (.invokevirtual 139, 3) := by decide +kernel
theorem d_L_law_1215 : decode c_L_law 1215 = .ok (.if_icmp .eq 5, 3) := by decide +kernel
theorem d_L_law_1218 : decode c_L_law 1218 = .ok (.iconst 0, 1) := by decide +kernel
theorem d_L_law_1219 : decode c_L_law 1219 = .ok (.ireturn, 1) := by decide +kernel
theorem d_L_law_1220 : decode c_L_law 1220 = .ok (.iinc 4 7, 3) := by decide +kernel
theorem d_L_law_1223 : decode c_L_law 1223 = .ok (.goto (-1200), 3) := by decide +kernel
theorem d_L_law_1226 : decode c_L_law 1226 = .ok (.iconst 1, 1) := by decide +kernel
theorem d_L_law_1227 : decode c_L_law 1227 = .ok (.ireturn, 1) := by decide +kernel
