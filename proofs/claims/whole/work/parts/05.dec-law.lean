theorem d_Lw_open_0 : decode c_Lw_open 0 = .ok (.aload_n 0, 1) := by decide +kernel
theorem d_Lw_open_1 : decode c_Lw_open 1 = .ok (.iload_n 1, 1) := by decide +kernel
theorem d_Lw_open_2 : decode c_Lw_open 2 = .ok (.iload_n 2, 1) := by decide +kernel
theorem d_Lw_open_3 : decode c_Lw_open 3 = .ok (.invokevirtual 7, 3) := by decide +kernel
theorem d_Lw_open_6 : decode c_Lw_open 6 = .ok (.goto 9, 3) := by decide +kernel
theorem d_Lw_open_9 : decode c_Lw_open 9 = .ok (.astore_n 3, 1) := by decide +kernel
theorem d_Lw_open_10 : decode c_Lw_open 10 = .ok (.iconst 1, 1) := by decide +kernel
theorem d_Lw_open_11 : decode c_Lw_open 11 = .ok (.ireturn, 1) := by decide +kernel
theorem d_Lw_open_12 : decode c_Lw_open 12 = .ok (.astore_n 3, 1) := by decide +kernel
theorem d_Lw_open_13 : decode c_Lw_open 13 = .ok (.iconst 2, 1) := by decide +kernel
theorem d_Lw_open_14 : decode c_Lw_open 14 = .ok (.ireturn, 1) := by decide +kernel
theorem d_Lw_open_15 : decode c_Lw_open 15 = .ok (.iconst 0, 1) := by decide +kernel
theorem d_Lw_open_16 : decode c_Lw_open 16 = .ok (.ireturn, 1) := by decide +kernel
theorem d_Lw_close_0 : decode c_Lw_close 0 = .ok (.aload_n 2, 1) := by decide +kernel
theorem d_Lw_close_1 : decode c_Lw_close 1 = .ok (.iconst 0, 1) := by decide +kernel
theorem d_Lw_close_2 : decode c_Lw_close 2 = .ok (.aload_n 0, 1) := by decide +kernel
theorem d_Lw_close_3 : decode c_Lw_close 3 = .ok (.iload_n 1, 1) := by decide +kernel
theorem d_Lw_close_4 : decode c_Lw_close 4 = .ok (.invokevirtual 17, 3) := by decide +kernel
theorem d_Lw_close_7 : decode c_Lw_close 7 = .ok (.i2l, 1) := by decide +kernel
theorem d_Lw_close_8 : decode c_Lw_close 8 = .ok (.lastore, 1) := by decide +kernel
theorem d_Lw_close_9 : decode c_Lw_close 9 = .ok (.goto 9, 3) := by decide +kernel
theorem d_Lw_close_12 : decode c_Lw_close 12 = .ok (.astore_n 3, 1) := by decide +kernel
theorem d_Lw_close_13 : decode c_Lw_close 13 = .ok (.iconst 1, 1) := by decide +kernel
theorem d_Lw_close_14 : decode c_Lw_close 14 = .ok (.ireturn, 1) := by decide +kernel
theorem d_Lw_close_15 : decode c_Lw_close 15 = .ok (.astore_n 3, 1) := by decide +kernel
theorem d_Lw_close_16 : decode c_Lw_close 16 = .ok (.iconst 2, 1) := by decide +kernel
theorem d_Lw_close_17 : decode c_Lw_close 17 = .ok (.ireturn, 1) := by decide +kernel
theorem d_Lw_close_18 : decode c_Lw_close 18 = .ok (.iconst 0, 1) := by decide +kernel
theorem d_Lw_close_19 : decode c_Lw_close 19 = .ok (.ireturn, 1) := by decide +kernel
theorem d_Lw_put_0 : decode c_Lw_put 0 = .ok (.aload_n 0, 1) := by decide +kernel
theorem d_Lw_put_1 : decode c_Lw_put 1 = .ok (.iload_n 1, 1) := by decide +kernel
theorem d_Lw_put_2 : decode c_Lw_put 2 = .ok (.iload_n 2, 1) := by decide +kernel
theorem d_Lw_put_3 : decode c_Lw_put 3 = .ok (.iload_n 3, 1) := by decide +kernel
theorem d_Lw_put_4 : decode c_Lw_put 4 = .ok (.iload 4, 2) := by decide +kernel
theorem d_Lw_put_6 : decode c_Lw_put 6 = .ok (.iload 5, 2) := by decide +kernel
theorem d_Lw_put_8 : decode c_Lw_put 8 = .ok (.invokevirtual 21, 3) := by decide +kernel
theorem d_Lw_put_11 : decode c_Lw_put 11 = .ok (.goto 15, 3) := by decide +kernel
theorem d_Lw_put_14 : decode c_Lw_put 14 = .ok (.astore 6, 2) := by decide +kernel
theorem d_Lw_put_16 : decode c_Lw_put 16 = .ok (.iconst 1, 1) := by decide +kernel
theorem d_Lw_put_17 : decode c_Lw_put 17 = .ok (.ireturn, 1) := by decide +kernel
theorem d_Lw_put_18 : decode c_Lw_put 18 = .ok (.astore 6, 2) := by decide +kernel
theorem d_Lw_put_20 : decode c_Lw_put 20 = .ok (.iconst 2, 1) := by decide +kernel
theorem d_Lw_put_21 : decode c_Lw_put 21 = .ok (.ireturn, 1) := by decide +kernel
theorem d_Lw_put_22 : decode c_Lw_put 22 = .ok (.astore 6, 2) := by decide +kernel
theorem d_Lw_put_24 : decode c_Lw_put 24 = .ok (.iconst 3, 1) := by decide +kernel
theorem d_Lw_put_25 : decode c_Lw_put 25 = .ok (.ireturn, 1) := by decide +kernel
theorem d_Lw_put_26 : decode c_Lw_put 26 = .ok (.iconst 0, 1) := by decide +kernel
theorem d_Lw_put_27 : decode c_Lw_put 27 = .ok (.ireturn, 1) := by decide +kernel
theorem d_Lw_strike_0 : decode c_Lw_strike 0 = .ok (.aload_n 3, 1) := by decide +kernel
theorem d_Lw_strike_1 : decode c_Lw_strike 1 = .ok (.iconst 0, 1) := by decide +kernel
theorem d_Lw_strike_2 : decode c_Lw_strike 2 = .ok (.aload_n 0, 1) := by decide +kernel
theorem d_Lw_strike_3 : decode c_Lw_strike 3 = .ok (.iload_n 1, 1) := by decide +kernel
theorem d_Lw_strike_4 : decode c_Lw_strike 4 = .ok (.iload_n 2, 1) := by decide +kernel
theorem d_Lw_strike_5 : decode c_Lw_strike 5 = .ok (.invokevirtual 27, 3) := by decide +kernel
theorem d_Lw_strike_8 : decode c_Lw_strike 8 = .ok (.ifCond .eq 7, 3) := by decide +kernel
theorem d_Lw_strike_11 : decode c_Lw_strike 11 = .ok (.lconst 1, 1) := by decide +kernel
theorem d_Lw_strike_12 : decode c_Lw_strike 12 = .ok (.goto 4, 3) := by decide +kernel
theorem d_Lw_strike_15 : decode c_Lw_strike 15 = .ok (.lconst 0, 1) := by decide +kernel
theorem d_Lw_strike_16 : decode c_Lw_strike 16 = .ok (.lastore, 1) := by decide +kernel
theorem d_Lw_strike_17 : decode c_Lw_strike 17 = .ok (.goto 11, 3) := by decide +kernel
theorem d_Lw_strike_20 : decode c_Lw_strike 20 = .ok (.astore 4, 2) := by decide +kernel
theorem d_Lw_strike_22 : decode c_Lw_strike 22 = .ok (.iconst 1, 1) := by decide +kernel
theorem d_Lw_strike_23 : decode c_Lw_strike 23 = .ok (.ireturn, 1) := by decide +kernel
theorem d_Lw_strike_24 : decode c_Lw_strike 24 = .ok (.astore 4, 2) := by decide +kernel
theorem d_Lw_strike_26 : decode c_Lw_strike 26 = .ok (.iconst 2, 1) := by decide +kernel
theorem d_Lw_strike_27 : decode c_Lw_strike 27 = .ok (.ireturn, 1) := by decide +kernel
theorem d_Lw_strike_28 : decode c_Lw_strike 28 = .ok (.iconst 0, 1) := by decide +kernel
theorem d_Lw_strike_29 : decode c_Lw_strike 29 = .ok (.ireturn, 1) := by decide +kernel
theorem d_Lw_shift_0 : decode c_Lw_shift 0 = .ok (.aload_n 0, 1) := by decide +kernel
theorem d_Lw_shift_1 : decode c_Lw_shift 1 = .ok (.iload_n 1, 1) := by decide +kernel
theorem d_Lw_shift_2 : decode c_Lw_shift 2 = .ok (.iload_n 2, 1) := by decide +kernel
theorem d_Lw_shift_3 : decode c_Lw_shift 3 = .ok (.iload_n 3, 1) := by decide +kernel
theorem d_Lw_shift_4 : decode c_Lw_shift 4 = .ok (.invokevirtual 31, 3) := by decide +kernel
theorem d_Lw_shift_7 : decode c_Lw_shift 7 = .ok (.goto 15, 3) := by decide +kernel
theorem d_Lw_shift_10 : decode c_Lw_shift 10 = .ok (.astore 4, 2) := by decide +kernel
theorem d_Lw_shift_12 : decode c_Lw_shift 12 = .ok (.iconst 1, 1) := by decide +kernel
theorem d_Lw_shift_13 : decode c_Lw_shift 13 = .ok (.ireturn, 1) := by decide +kernel
theorem d_Lw_shift_14 : decode c_Lw_shift 14 = .ok (.astore 4, 2) := by decide +kernel
theorem d_Lw_shift_16 : decode c_Lw_shift 16 = .ok (.iconst 2, 1) := by decide +kernel
theorem d_Lw_shift_17 : decode c_Lw_shift 17 = .ok (.ireturn, 1) := by decide +kernel
theorem d_Lw_shift_18 : decode c_Lw_shift 18 = .ok (.astore 4, 2) := by decide +kernel
theorem d_Lw_shift_20 : decode c_Lw_shift 20 = .ok (.iconst 3, 1) := by decide +kernel
theorem d_Lw_shift_21 : decode c_Lw_shift 21 = .ok (.ireturn, 1) := by decide +kernel
theorem d_Lw_shift_22 : decode c_Lw_shift 22 = .ok (.iconst 0, 1) := by decide +kernel
theorem d_Lw_shift_23 : decode c_Lw_shift 23 = .ok (.ireturn, 1) := by decide +kernel
theorem d_Lw_front_0 : decode c_Lw_front 0 = .ok (.aload_n 3, 1) := by decide +kernel
theorem d_Lw_front_1 : decode c_Lw_front 1 = .ok (.iconst 0, 1) := by decide +kernel
theorem d_Lw_front_2 : decode c_Lw_front 2 = .ok (.aload_n 0, 1) := by decide +kernel
theorem d_Lw_front_3 : decode c_Lw_front 3 = .ok (.iload_n 1, 1) := by decide +kernel
theorem d_Lw_front_4 : decode c_Lw_front 4 = .ok (.iload_n 2, 1) := by decide +kernel
theorem d_Lw_front_5 : decode c_Lw_front 5 = .ok (.invokevirtual 37, 3) := by decide +kernel
theorem d_Lw_front_8 : decode c_Lw_front 8 = .ok (.i2l, 1) := by decide +kernel
theorem d_Lw_front_9 : decode c_Lw_front 9 = .ok (.lastore, 1) := by decide +kernel
theorem d_Lw_front_10 : decode c_Lw_front 10 = .ok (.goto 15, 3) := by decide +kernel
theorem d_Lw_front_13 : decode c_Lw_front 13 = .ok (.astore 4, 2) := by decide +kernel
theorem d_Lw_front_15 : decode c_Lw_front 15 = .ok (.iconst 1, 1) := by decide +kernel
theorem d_Lw_front_16 : decode c_Lw_front 16 = .ok (.ireturn, 1) := by decide +kernel
theorem d_Lw_front_17 : decode c_Lw_front 17 = .ok (.astore 4, 2) := by decide +kernel
theorem d_Lw_front_19 : decode c_Lw_front 19 = .ok (.iconst 2, 1) := by decide +kernel
theorem d_Lw_front_20 : decode c_Lw_front 20 = .ok (.ireturn, 1) := by decide +kernel
theorem d_Lw_front_21 : decode c_Lw_front 21 = .ok (.astore 4, 2) := by decide +kernel
theorem d_Lw_front_23 : decode c_Lw_front 23 = .ok (.iconst 3, 1) := by decide +kernel
theorem d_Lw_front_24 : decode c_Lw_front 24 = .ok (.ireturn, 1) := by decide +kernel
theorem d_Lw_front_25 : decode c_Lw_front 25 = .ok (.iconst 0, 1) := by decide +kernel
theorem d_Lw_front_26 : decode c_Lw_front 26 = .ok (.ireturn, 1) := by decide +kernel
theorem d_Lw_size_0 : decode c_Lw_size 0 = .ok (.aload_n 3, 1) := by decide +kernel
theorem d_Lw_size_1 : decode c_Lw_size 1 = .ok (.iconst 0, 1) := by decide +kernel
theorem d_Lw_size_2 : decode c_Lw_size 2 = .ok (.aload_n 0, 1) := by decide +kernel
theorem d_Lw_size_3 : decode c_Lw_size 3 = .ok (.iload_n 1, 1) := by decide +kernel
theorem d_Lw_size_4 : decode c_Lw_size 4 = .ok (.iload_n 2, 1) := by decide +kernel
theorem d_Lw_size_5 : decode c_Lw_size 5 = .ok (.invokevirtual 41, 3) := by decide +kernel
theorem d_Lw_size_8 : decode c_Lw_size 8 = .ok (.i2l, 1) := by decide +kernel
theorem d_Lw_size_9 : decode c_Lw_size 9 = .ok (.lastore, 1) := by decide +kernel
theorem d_Lw_size_10 : decode c_Lw_size 10 = .ok (.goto 11, 3) := by decide +kernel
theorem d_Lw_size_13 : decode c_Lw_size 13 = .ok (.astore 4, 2) := by decide +kernel
theorem d_Lw_size_15 : decode c_Lw_size 15 = .ok (.iconst 1, 1) := by decide +kernel
theorem d_Lw_size_16 : decode c_Lw_size 16 = .ok (.ireturn, 1) := by decide +kernel
theorem d_Lw_size_17 : decode c_Lw_size 17 = .ok (.astore 4, 2) := by decide +kernel
theorem d_Lw_size_19 : decode c_Lw_size 19 = .ok (.iconst 2, 1) := by decide +kernel
theorem d_Lw_size_20 : decode c_Lw_size 20 = .ok (.ireturn, 1) := by decide +kernel
theorem d_Lw_size_21 : decode c_Lw_size 21 = .ok (.iconst 0, 1) := by decide +kernel
theorem d_Lw_size_22 : decode c_Lw_size 22 = .ok (.ireturn, 1) := by decide +kernel
theorem d_Lw_at_0 : decode c_Lw_at 0 = .ok (.aload 4, 2) := by decide +kernel
theorem d_Lw_at_2 : decode c_Lw_at 2 = .ok (.iconst 0, 1) := by decide +kernel
theorem d_Lw_at_3 : decode c_Lw_at 3 = .ok (.aload_n 0, 1) := by decide +kernel
theorem d_Lw_at_4 : decode c_Lw_at 4 = .ok (.iload_n 1, 1) := by decide +kernel
theorem d_Lw_at_5 : decode c_Lw_at 5 = .ok (.iload_n 2, 1) := by decide +kernel
theorem d_Lw_at_6 : decode c_Lw_at 6 = .ok (.iload_n 3, 1) := by decide +kernel
theorem d_Lw_at_7 : decode c_Lw_at 7 = .ok (.invokevirtual 44, 3) := by decide +kernel
theorem d_Lw_at_10 : decode c_Lw_at 10 = .ok (.i2l, 1) := by decide +kernel
theorem d_Lw_at_11 : decode c_Lw_at 11 = .ok (.lastore, 1) := by decide +kernel
theorem d_Lw_at_12 : decode c_Lw_at 12 = .ok (.goto 15, 3) := by decide +kernel
theorem d_Lw_at_15 : decode c_Lw_at 15 = .ok (.astore 5, 2) := by decide +kernel
theorem d_Lw_at_17 : decode c_Lw_at 17 = .ok (.iconst 1, 1) := by decide +kernel
theorem d_Lw_at_18 : decode c_Lw_at 18 = .ok (.ireturn, 1) := by decide +kernel
theorem d_Lw_at_19 : decode c_Lw_at 19 = .ok (.astore 5, 2) := by decide +kernel
theorem d_Lw_at_21 : decode c_Lw_at 21 = .ok (.iconst 2, 1) := by decide +kernel
theorem d_Lw_at_22 : decode c_Lw_at 22 = .ok (.ireturn, 1) := by decide +kernel
theorem d_Lw_at_23 : decode c_Lw_at 23 = .ok (.astore 5, 2) := by decide +kernel
theorem d_Lw_at_25 : decode c_Lw_at 25 = .ok (.iconst 3, 1) := by decide +kernel
theorem d_Lw_at_26 : decode c_Lw_at 26 = .ok (.ireturn, 1) := by decide +kernel
theorem d_Lw_at_27 : decode c_Lw_at 27 = .ok (.iconst 0, 1) := by decide +kernel
theorem d_Lw_at_28 : decode c_Lw_at 28 = .ok (.ireturn, 1) := by decide +kernel
theorem d_Lw_least_0 : decode c_Lw_least 0 = .ok (.aload 4, 2) := by decide +kernel
theorem d_Lw_least_2 : decode c_Lw_least 2 = .ok (.iconst 0, 1) := by decide +kernel
theorem d_Lw_least_3 : decode c_Lw_least 3 = .ok (.aload_n 0, 1) := by decide +kernel
theorem d_Lw_least_4 : decode c_Lw_least 4 = .ok (.iload_n 1, 1) := by decide +kernel
theorem d_Lw_least_5 : decode c_Lw_least 5 = .ok (.iload_n 2, 1) := by decide +kernel
theorem d_Lw_least_6 : decode c_Lw_least 6 = .ok (.iload_n 3, 1) := by decide +kernel
theorem d_Lw_least_7 : decode c_Lw_least 7 = .ok (.invokevirtual 48, 3) := by decide +kernel
theorem d_Lw_least_10 : decode c_Lw_least 10 = .ok (.i2l, 1) := by decide +kernel
theorem d_Lw_least_11 : decode c_Lw_least 11 = .ok (.lastore, 1) := by decide +kernel
theorem d_Lw_least_12 : decode c_Lw_least 12 = .ok (.goto 15, 3) := by decide +kernel
theorem d_Lw_least_15 : decode c_Lw_least 15 = .ok (.astore 5, 2) := by decide +kernel
theorem d_Lw_least_17 : decode c_Lw_least 17 = .ok (.iconst 1, 1) := by decide +kernel
theorem d_Lw_least_18 : decode c_Lw_least 18 = .ok (.ireturn, 1) := by decide +kernel
theorem d_Lw_least_19 : decode c_Lw_least 19 = .ok (.astore 5, 2) := by decide +kernel
theorem d_Lw_least_21 : decode c_Lw_least 21 = .ok (.iconst 2, 1) := by decide +kernel
theorem d_Lw_least_22 : decode c_Lw_least 22 = .ok (.ireturn, 1) := by decide +kernel
theorem d_Lw_least_23 : decode c_Lw_least 23 = .ok (.astore 5, 2) := by decide +kernel
theorem d_Lw_least_25 : decode c_Lw_least 25 = .ok (.iconst 3, 1) := by decide +kernel
theorem d_Lw_least_26 : decode c_Lw_least 26 = .ok (.ireturn, 1) := by decide +kernel
theorem d_Lw_least_27 : decode c_Lw_least 27 = .ok (.iconst 0, 1) := by decide +kernel
theorem d_Lw_least_28 : decode c_Lw_least 28 = .ok (.ireturn, 1) := by decide +kernel
theorem d_Lw_sum_0 : decode c_Lw_sum 0 = .ok (.aload_n 3, 1) := by decide +kernel
theorem d_Lw_sum_1 : decode c_Lw_sum 1 = .ok (.iconst 0, 1) := by decide +kernel
theorem d_Lw_sum_2 : decode c_Lw_sum 2 = .ok (.aload_n 0, 1) := by decide +kernel
theorem d_Lw_sum_3 : decode c_Lw_sum 3 = .ok (.iload_n 1, 1) := by decide +kernel
theorem d_Lw_sum_4 : decode c_Lw_sum 4 = .ok (.iload_n 2, 1) := by decide +kernel
theorem d_Lw_sum_5 : decode c_Lw_sum 5 = .ok (.invokevirtual 53, 3) := by decide +kernel
theorem d_Lw_sum_8 : decode c_Lw_sum 8 = .ok (.lastore, 1) := by decide +kernel
theorem d_Lw_sum_9 : decode c_Lw_sum 9 = .ok (.goto 11, 3) := by decide +kernel
theorem d_Lw_sum_12 : decode c_Lw_sum 12 = .ok (.astore 4, 2) := by decide +kernel
theorem d_Lw_sum_14 : decode c_Lw_sum 14 = .ok (.iconst 1, 1) := by decide +kernel
theorem d_Lw_sum_15 : decode c_Lw_sum 15 = .ok (.ireturn, 1) := by decide +kernel
theorem d_Lw_sum_16 : decode c_Lw_sum 16 = .ok (.astore 4, 2) := by decide +kernel
theorem d_Lw_sum_18 : decode c_Lw_sum 18 = .ok (.iconst 2, 1) := by decide +kernel
theorem d_Lw_sum_19 : decode c_Lw_sum 19 = .ok (.ireturn, 1) := by decide +kernel
theorem d_Lw_sum_20 : decode c_Lw_sum 20 = .ok (.iconst 0, 1) := by decide +kernel
theorem d_Lw_sum_21 : decode c_Lw_sum 21 = .ok (.ireturn, 1) := by decide +kernel
theorem d_Lw_together_0 : decode c_Lw_together 0 = .ok (.aload 5, 2) := by decide +kernel
theorem d_Lw_together_2 : decode c_Lw_together 2 = .ok (.iconst 0, 1) := by decide +kernel
theorem d_Lw_together_3 : decode c_Lw_together 3 = .ok (.aload_n 0, 1) := by decide +kernel
theorem d_Lw_together_4 : decode c_Lw_together 4 = .ok (.iload_n 1, 1) := by decide +kernel
theorem d_Lw_together_5 : decode c_Lw_together 5 = .ok (.iload_n 2, 1) := by decide +kernel
theorem d_Lw_together_6 : decode c_Lw_together 6 = .ok (.iload_n 3, 1) := by decide +kernel
theorem d_Lw_together_7 : decode c_Lw_together 7 = .ok (.iload 4, 2) := by decide +kernel
theorem d_Lw_together_9 : decode c_Lw_together 9 = .ok (.invokevirtual 57, 3) := by decide +kernel
theorem d_Lw_together_12 : decode c_Lw_together 12 = .ok (.ifCond .eq 7, 3) := by decide +kernel
theorem d_Lw_together_15 : decode c_Lw_together 15 = .ok (.lconst 1, 1) := by decide +kernel
theorem d_Lw_together_16 : decode c_Lw_together 16 = .ok (.goto 4, 3) := by decide +kernel
theorem d_Lw_together_19 : decode c_Lw_together 19 = .ok (.lconst 0, 1) := by decide +kernel
theorem d_Lw_together_20 : decode c_Lw_together 20 = .ok (.lastore, 1) := by decide +kernel
theorem d_Lw_together_21 : decode c_Lw_together 21 = .ok (.goto 11, 3) := by decide +kernel
theorem d_Lw_together_24 : decode c_Lw_together 24 = .ok (.astore 6, 2) := by decide +kernel
theorem d_Lw_together_26 : decode c_Lw_together 26 = .ok (.iconst 1, 1) := by decide +kernel
theorem d_Lw_together_27 : decode c_Lw_together 27 = .ok (.ireturn, 1) := by decide +kernel
theorem d_Lw_together_28 : decode c_Lw_together 28 = .ok (.astore 6, 2) := by decide +kernel
theorem d_Lw_together_30 : decode c_Lw_together 30 = .ok (.iconst 2, 1) := by decide +kernel
theorem d_Lw_together_31 : decode c_Lw_together 31 = .ok (.ireturn, 1) := by decide +kernel
theorem d_Lw_together_32 : decode c_Lw_together 32 = .ok (.iconst 0, 1) := by decide +kernel
theorem d_Lw_together_33 : decode c_Lw_together 33 = .ok (.ireturn, 1) := by decide +kernel
theorem d_Lw_result_0 : decode c_Lw_result 0 = .ok (.aload_n 3, 1) := by decide +kernel
theorem d_Lw_result_1 : decode c_Lw_result 1 = .ok (.iconst 0, 1) := by decide +kernel
theorem d_Lw_result_2 : decode c_Lw_result 2 = .ok (.aload_n 0, 1) := by decide +kernel
theorem d_Lw_result_3 : decode c_Lw_result 3 = .ok (.iload_n 1, 1) := by decide +kernel
theorem d_Lw_result_4 : decode c_Lw_result 4 = .ok (.iload_n 2, 1) := by decide +kernel
theorem d_Lw_result_5 : decode c_Lw_result 5 = .ok (.invokevirtual 61, 3) := by decide +kernel
theorem d_Lw_result_8 : decode c_Lw_result 8 = .ok (.lastore, 1) := by decide +kernel
theorem d_Lw_result_9 : decode c_Lw_result 9 = .ok (.goto 15, 3) := by decide +kernel
theorem d_Lw_result_12 : decode c_Lw_result 12 = .ok (.astore 4, 2) := by decide +kernel
theorem d_Lw_result_14 : decode c_Lw_result 14 = .ok (.iconst 1, 1) := by decide +kernel
theorem d_Lw_result_15 : decode c_Lw_result 15 = .ok (.ireturn, 1) := by decide +kernel
theorem d_Lw_result_16 : decode c_Lw_result 16 = .ok (.astore 4, 2) := by decide +kernel
theorem d_Lw_result_18 : decode c_Lw_result 18 = .ok (.iconst 2, 1) := by decide +kernel
theorem d_Lw_result_19 : decode c_Lw_result 19 = .ok (.ireturn, 1) := by decide +kernel
theorem d_Lw_result_20 : decode c_Lw_result 20 = .ok (.astore 4, 2) := by decide +kernel
theorem d_Lw_result_22 : decode c_Lw_result 22 = .ok (.iconst 3, 1) := by decide +kernel
theorem d_Lw_result_23 : decode c_Lw_result 23 = .ok (.ireturn, 1) := by decide +kernel
theorem d_Lw_result_24 : decode c_Lw_result 24 = .ok (.iconst 0, 1) := by decide +kernel
theorem d_Lw_result_25 : decode c_Lw_result 25 = .ok (.ireturn, 1) := by decide +kernel
theorem d_Lw_works_0 : decode c_Lw_works 0 = .ok (.aload_n 3, 1) := by decide +kernel
theorem d_Lw_works_1 : decode c_Lw_works 1 = .ok (.iconst 0, 1) := by decide +kernel
theorem d_Lw_works_2 : decode c_Lw_works 2 = .ok (.aload_n 0, 1) := by decide +kernel
theorem d_Lw_works_3 : decode c_Lw_works 3 = .ok (.iload_n 1, 1) := by decide +kernel
theorem d_Lw_works_4 : decode c_Lw_works 4 = .ok (.iload_n 2, 1) := by decide +kernel
theorem d_Lw_works_5 : decode c_Lw_works 5 = .ok (.invokevirtual 64, 3) := by decide +kernel
theorem d_Lw_works_8 : decode c_Lw_works 8 = .ok (.ifCond .eq 7, 3) := by decide +kernel
theorem d_Lw_works_11 : decode c_Lw_works 11 = .ok (.lconst 1, 1) := by decide +kernel
theorem d_Lw_works_12 : decode c_Lw_works 12 = .ok (.goto 4, 3) := by decide +kernel
theorem d_Lw_works_15 : decode c_Lw_works 15 = .ok (.lconst 0, 1) := by decide +kernel
theorem d_Lw_works_16 : decode c_Lw_works 16 = .ok (.lastore, 1) := by decide +kernel
theorem d_Lw_works_17 : decode c_Lw_works 17 = .ok (.goto 15, 3) := by decide +kernel
theorem d_Lw_works_20 : decode c_Lw_works 20 = .ok (.astore 4, 2) := by decide +kernel
theorem d_Lw_works_22 : decode c_Lw_works 22 = .ok (.iconst 1, 1) := by decide +kernel
theorem d_Lw_works_23 : decode c_Lw_works 23 = .ok (.ireturn, 1) := by decide +kernel
theorem d_Lw_works_24 : decode c_Lw_works 24 = .ok (.astore 4, 2) := by decide +kernel
theorem d_Lw_works_26 : decode c_Lw_works 26 = .ok (.iconst 2, 1) := by decide +kernel
theorem d_Lw_works_27 : decode c_Lw_works 27 = .ok (.ireturn, 1) := by decide +kernel
theorem d_Lw_works_28 : decode c_Lw_works 28 = .ok (.astore 4, 2) := by decide +kernel
theorem d_Lw_works_30 : decode c_Lw_works 30 = .ok (.iconst 3, 1) := by decide +kernel
theorem d_Lw_works_31 : decode c_Lw_works 31 = .ok (.ireturn, 1) := by decide +kernel
theorem d_Lw_works_32 : decode c_Lw_works 32 = .ok (.iconst 0, 1) := by decide +kernel
theorem d_Lw_works_33 : decode c_Lw_works 33 = .ok (.ireturn, 1) := by decide +kernel
theorem d_Lw_effective_0 : decode c_Lw_effective 0 = .ok (.aload 4, 2) := by decide +kernel
theorem d_Lw_effective_2 : decode c_Lw_effective 2 = .ok (.iconst 0, 1) := by decide +kernel
theorem d_Lw_effective_3 : decode c_Lw_effective 3 = .ok (.aload_n 0, 1) := by decide +kernel
theorem d_Lw_effective_4 : decode c_Lw_effective 4 = .ok (.iload_n 1, 1) := by decide +kernel
theorem d_Lw_effective_5 : decode c_Lw_effective 5 = .ok (.iload_n 2, 1) := by decide +kernel
theorem d_Lw_effective_6 : decode c_Lw_effective 6 = .ok (.iload_n 3, 1) := by decide +kernel
theorem d_Lw_effective_7 : decode c_Lw_effective 7 = .ok (.invokevirtual 67, 3) := by decide +kernel
theorem d_Lw_effective_10 : decode c_Lw_effective 10 = .ok (.i2l, 1) := by decide +kernel
theorem d_Lw_effective_11 : decode c_Lw_effective 11 = .ok (.lastore, 1) := by decide +kernel
theorem d_Lw_effective_12 : decode c_Lw_effective 12 = .ok (.goto 11, 3) := by decide +kernel
theorem d_Lw_effective_15 : decode c_Lw_effective 15 = .ok (.astore 5, 2) := by decide +kernel
theorem d_Lw_effective_17 : decode c_Lw_effective 17 = .ok (.iconst 1, 1) := by decide +kernel
theorem d_Lw_effective_18 : decode c_Lw_effective 18 = .ok (.ireturn, 1) := by decide +kernel
theorem d_Lw_effective_19 : decode c_Lw_effective 19 = .ok (.astore 5, 2) := by decide +kernel
theorem d_Lw_effective_21 : decode c_Lw_effective 21 = .ok (.iconst 2, 1) := by decide +kernel
theorem d_Lw_effective_22 : decode c_Lw_effective 22 = .ok (.ireturn, 1) := by decide +kernel
theorem d_Lw_effective_23 : decode c_Lw_effective 23 = .ok (.iconst 0, 1) := by decide +kernel
theorem d_Lw_effective_24 : decode c_Lw_effective 24 = .ok (.ireturn, 1) := by decide +kernel
theorem d_Lw_firstChange_0 : decode c_Lw_firstChange 0 = .ok (.aload 4, 2) := by decide +kernel
theorem d_Lw_firstChange_2 : decode c_Lw_firstChange 2 = .ok (.iconst 0, 1) := by decide +kernel
theorem d_Lw_firstChange_3 : decode c_Lw_firstChange 3 = .ok (.aload_n 0, 1) := by decide +kernel
theorem d_Lw_firstChange_4 : decode c_Lw_firstChange 4 = .ok (.iload_n 1, 1) := by decide +kernel
theorem d_Lw_firstChange_5 : decode c_Lw_firstChange 5 = .ok (.iload_n 2, 1) := by decide +kernel
theorem d_Lw_firstChange_6 : decode c_Lw_firstChange 6 = .ok (.iload_n 3, 1) := by decide +kernel
theorem d_Lw_firstChange_7 : decode c_Lw_firstChange 7 = .ok (.invokevirtual 70, 3) := by decide +kernel
theorem d_Lw_firstChange_10 : decode c_Lw_firstChange 10 = .ok (.i2l, 1) := by decide +kernel
theorem d_Lw_firstChange_11 : decode c_Lw_firstChange 11 = .ok (.lastore, 1) := by decide +kernel
theorem d_Lw_firstChange_12 : decode c_Lw_firstChange 12 = .ok (.goto 11, 3) := by decide +kernel
theorem d_Lw_firstChange_15 : decode c_Lw_firstChange 15 = .ok (.astore 5, 2) := by decide +kernel
theorem d_Lw_firstChange_17 : decode c_Lw_firstChange 17 = .ok (.iconst 1, 1) := by decide +kernel
theorem d_Lw_firstChange_18 : decode c_Lw_firstChange 18 = .ok (.ireturn, 1) := by decide +kernel
theorem d_Lw_firstChange_19 : decode c_Lw_firstChange 19 = .ok (.astore 5, 2) := by decide +kernel
theorem d_Lw_firstChange_21 : decode c_Lw_firstChange 21 = .ok (.iconst 2, 1) := by decide +kernel
theorem d_Lw_firstChange_22 : decode c_Lw_firstChange 22 = .ok (.ireturn, 1) := by decide +kernel
theorem d_Lw_firstChange_23 : decode c_Lw_firstChange 23 = .ok (.iconst 0, 1) := by decide +kernel
theorem d_Lw_firstChange_24 : decode c_Lw_firstChange 24 = .ok (.ireturn, 1) := by decide +kernel
theorem d_Lw_operations_0 : decode c_Lw_operations 0 = .ok (.aload_n 2, 1) := by decide +kernel
theorem d_Lw_operations_1 : decode c_Lw_operations 1 = .ok (.iconst 0, 1) := by decide +kernel
theorem d_Lw_operations_2 : decode c_Lw_operations 2 = .ok (.aload_n 0, 1) := by decide +kernel
theorem d_Lw_operations_3 : decode c_Lw_operations 3 = .ok (.iload_n 1, 1) := by decide +kernel
theorem d_Lw_operations_4 : decode c_Lw_operations 4 = .ok (.invokevirtual 73, 3) := by decide +kernel
theorem d_Lw_operations_7 : decode c_Lw_operations 7 = .ok (.i2l, 1) := by decide +kernel
theorem d_Lw_operations_8 : decode c_Lw_operations 8 = .ok (.lastore, 1) := by decide +kernel
theorem d_Lw_operations_9 : decode c_Lw_operations 9 = .ok (.goto 9, 3) := by decide +kernel
theorem d_Lw_operations_12 : decode c_Lw_operations 12 = .ok (.astore_n 3, 1) := by decide +kernel
theorem d_Lw_operations_13 : decode c_Lw_operations 13 = .ok (.iconst 1, 1) := by decide +kernel
theorem d_Lw_operations_14 : decode c_Lw_operations 14 = .ok (.ireturn, 1) := by decide +kernel
theorem d_Lw_operations_15 : decode c_Lw_operations 15 = .ok (.astore_n 3, 1) := by decide +kernel
theorem d_Lw_operations_16 : decode c_Lw_operations 16 = .ok (.iconst 2, 1) := by decide +kernel
theorem d_Lw_operations_17 : decode c_Lw_operations 17 = .ok (.ireturn, 1) := by decide +kernel
theorem d_Lw_operations_18 : decode c_Lw_operations 18 = .ok (.iconst 0, 1) := by decide +kernel
theorem d_Lw_operations_19 : decode c_Lw_operations 19 = .ok (.ireturn, 1) := by decide +kernel
theorem d_Lw_operation_0 : decode c_Lw_operation 0 = .ok (.aload 4, 2) := by decide +kernel
theorem d_Lw_operation_2 : decode c_Lw_operation 2 = .ok (.iconst 0, 1) := by decide +kernel
theorem d_Lw_operation_3 : decode c_Lw_operation 3 = .ok (.aload_n 0, 1) := by decide +kernel
theorem d_Lw_operation_4 : decode c_Lw_operation 4 = .ok (.iload_n 1, 1) := by decide +kernel
theorem d_Lw_operation_5 : decode c_Lw_operation 5 = .ok (.iload_n 2, 1) := by decide +kernel
theorem d_Lw_operation_6 : decode c_Lw_operation 6 = .ok (.iload_n 3, 1) := by decide +kernel
theorem d_Lw_operation_7 : decode c_Lw_operation 7 = .ok (.invokevirtual 76, 3) := by decide +kernel
theorem d_Lw_operation_10 : decode c_Lw_operation 10 = .ok (.i2l, 1) := by decide +kernel
theorem d_Lw_operation_11 : decode c_Lw_operation 11 = .ok (.lastore, 1) := by decide +kernel
theorem d_Lw_operation_12 : decode c_Lw_operation 12 = .ok (.goto 15, 3) := by decide +kernel
theorem d_Lw_operation_15 : decode c_Lw_operation 15 = .ok (.astore 5, 2) := by decide +kernel
theorem d_Lw_operation_17 : decode c_Lw_operation 17 = .ok (.iconst 1, 1) := by decide +kernel
theorem d_Lw_operation_18 : decode c_Lw_operation 18 = .ok (.ireturn, 1) := by decide +kernel
theorem d_Lw_operation_19 : decode c_Lw_operation 19 = .ok (.astore 5, 2) := by decide +kernel
theorem d_Lw_operation_21 : decode c_Lw_operation 21 = .ok (.iconst 2, 1) := by decide +kernel
theorem d_Lw_operation_22 : decode c_Lw_operation 22 = .ok (.ireturn, 1) := by decide +kernel
theorem d_Lw_operation_23 : decode c_Lw_operation 23 = .ok (.astore 5, 2) := by decide +kernel
theorem d_Lw_operation_25 : decode c_Lw_operation 25 = .ok (.iconst 3, 1) := by decide +kernel
theorem d_Lw_operation_26 : decode c_Lw_operation 26 = .ok (.ireturn, 1) := by decide +kernel
theorem d_Lw_operation_27 : decode c_Lw_operation 27 = .ok (.iconst 0, 1) := by decide +kernel
theorem d_Lw_operation_28 : decode c_Lw_operation 28 = .ok (.ireturn, 1) := by decide +kernel
