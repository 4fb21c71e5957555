theorem d_SJ_init_0 : decode b_SJ_init 0 = .ok (.aload_n 0, 1) := by decide +kernel
theorem d_SJ_init_1 : decode b_SJ_init 1 = .ok (.invokespecial 1, 3) := by decide +kernel
theorem d_SJ_init_4 : decode b_SJ_init 4 = .ok (.aload_n 0, 1) := by decide +kernel
theorem d_SJ_init_5 : decode b_SJ_init 5 = .ok (.new 7, 3) := by decide +kernel
theorem d_SJ_init_8 : decode b_SJ_init 8 = .ok (.dup, 1) := by decide +kernel
theorem d_SJ_init_9 : decode b_SJ_init 9 = .ok (.iload_n 1, 1) := by decide +kernel
theorem d_SJ_init_10 : decode b_SJ_init 10 = .ok (.iconst 3, 1) := by decide +kernel
theorem d_SJ_init_11 : decode b_SJ_init 11 = .ok (.iand, 1) := by decide +kernel
theorem d_SJ_init_12 : decode b_SJ_init 12 = .ok (.invokespecial 9, 3) := by decide +kernel
theorem d_SJ_init_15 : decode b_SJ_init 15 = .ok (.putfield 12, 3) := by decide +kernel
theorem d_SJ_init_18 : decode b_SJ_init 18 = .ok (.aload_n 0, 1) := by decide +kernel
theorem d_SJ_init_19 : decode b_SJ_init 19 = .ok (.new 18, 3) := by decide +kernel
theorem d_SJ_init_22 : decode b_SJ_init 22 = .ok (.dup, 1) := by decide +kernel
theorem d_SJ_init_23 : decode b_SJ_init 23 = .ok (.invokespecial 20, 3) := by decide +kernel
theorem d_SJ_init_26 : decode b_SJ_init 26 = .ok (.putfield 21, 3) := by decide +kernel
theorem d_SJ_init_29 : decode b_SJ_init 29 = .ok (.aload_n 0, 1) := by decide +kernel
theorem d_SJ_init_30 : decode b_SJ_init 30 = .ok (.new 25, 3) := by decide +kernel
theorem d_SJ_init_33 : decode b_SJ_init 33 = .ok (.dup, 1) := by decide +kernel
theorem d_SJ_init_34 : decode b_SJ_init 34 = .ok (.invokespecial 27, 3) := by decide +kernel
theorem d_SJ_init_37 : decode b_SJ_init 37 = .ok (.putfield 28, 3) := by decide +kernel
theorem d_SJ_init_40 : decode b_SJ_init 40 = .ok (.return_, 1) := by decide +kernel
theorem d_SJ_code_0 : decode b_SJ_code 0 = .ok (.aload_n 0, 1) := by decide +kernel
theorem d_SJ_code_1 : decode b_SJ_code 1 = .ok (.getfield 12, 3) := by decide +kernel
theorem d_SJ_code_4 : decode b_SJ_code 4 = .ok (.iload_n 1, 1) := by decide +kernel
theorem d_SJ_code_5 : decode b_SJ_code 5 = .ok (.iload_n 2, 1) := by decide +kernel
theorem d_SJ_code_6 : decode b_SJ_code 6 = .ok (.invokevirtual 32, 3) := by decide +kernel
theorem d_SJ_code_9 : decode b_SJ_code 9 = .ok (.ifCond .eq 15, 3) := by decide +kernel
theorem d_SJ_code_12 : decode b_SJ_code 12 = .ok (.aload_n 0, 1) := by decide +kernel
theorem d_SJ_code_13 : decode b_SJ_code 13 = .ok (.getfield 12, 3) := by decide +kernel
theorem d_SJ_code_16 : decode b_SJ_code 16 = .ok (.getfield 36, 3) := by decide +kernel
theorem d_SJ_code_19 : decode b_SJ_code 19 = .ok (.iconst 1, 1) := by decide +kernel
theorem d_SJ_code_20 : decode b_SJ_code 20 = .ok (.isub, 1) := by decide +kernel
theorem d_SJ_code_21 : decode b_SJ_code 21 = .ok (.goto 5, 3) := by decide +kernel
theorem d_SJ_code_24 : decode b_SJ_code 24 = .ok (.bipush (-3), 2) := by decide +kernel
theorem d_SJ_code_26 : decode b_SJ_code 26 = .ok (.ireturn, 1) := by decide +kernel
theorem d_SJ_clear_0 : decode b_SJ_clear 0 = .ok (.aload_n 0, 1) := by decide +kernel
theorem d_SJ_clear_1 : decode b_SJ_clear 1 = .ok (.getfield 12, 3) := by decide +kernel
theorem d_SJ_clear_4 : decode b_SJ_clear 4 = .ok (.getfield 36, 3) := by decide +kernel
theorem d_SJ_clear_7 : decode b_SJ_clear 7 = .ok (.istore_n 1, 1) := by decide +kernel
theorem d_SJ_clear_8 : decode b_SJ_clear 8 = .ok (.aload_n 0, 1) := by decide +kernel
theorem d_SJ_clear_9 : decode b_SJ_clear 9 = .ok (.getfield 12, 3) := by decide +kernel
theorem d_SJ_clear_12 : decode b_SJ_clear 12 = .ok (.iconst 0, 1) := by decide +kernel
theorem d_SJ_clear_13 : decode b_SJ_clear 13 = .ok (.invokevirtual 40, 3) := by decide +kernel
theorem d_SJ_clear_16 : decode b_SJ_clear 16 = .ok (.iload_n 1, 1) := by decide +kernel
theorem d_SJ_clear_17 : decode b_SJ_clear 17 = .ok (.ireturn, 1) := by decide +kernel
theorem d_SJ_drop_0 : decode b_SJ_drop 0 = .ok (.aload_n 0, 1) := by decide +kernel
theorem d_SJ_drop_1 : decode b_SJ_drop 1 = .ok (.getfield 12, 3) := by decide +kernel
theorem d_SJ_drop_4 : decode b_SJ_drop 4 = .ok (.getfield 36, 3) := by decide +kernel
theorem d_SJ_drop_7 : decode b_SJ_drop 7 = .ok (.ifCond .ne 6, 3) := by decide +kernel
theorem d_SJ_drop_10 : decode b_SJ_drop 10 = .ok (.bipush (-2), 2) := by decide +kernel
theorem d_SJ_drop_12 : decode b_SJ_drop 12 = .ok (.ireturn, 1) := by decide +kernel
theorem d_SJ_drop_13 : decode b_SJ_drop 13 = .ok (.aload_n 0, 1) := by decide +kernel
theorem d_SJ_drop_14 : decode b_SJ_drop 14 = .ok (.getfield 12, 3) := by decide +kernel
theorem d_SJ_drop_17 : decode b_SJ_drop 17 = .ok (.aload_n 0, 1) := by decide +kernel
theorem d_SJ_drop_18 : decode b_SJ_drop 18 = .ok (.getfield 12, 3) := by decide +kernel
theorem d_SJ_drop_21 : decode b_SJ_drop 21 = .ok (.getfield 36, 3) := by decide +kernel
theorem d_SJ_drop_24 : decode b_SJ_drop 24 = .ok (.iconst 1, 1) := by decide +kernel
theorem d_SJ_drop_25 : decode b_SJ_drop 25 = .ok (.isub, 1) := by decide +kernel
theorem d_SJ_drop_26 : decode b_SJ_drop 26 = .ok (.invokevirtual 40, 3) := by decide +kernel
theorem d_SJ_drop_29 : decode b_SJ_drop 29 = .ok (.aload_n 0, 1) := by decide +kernel
theorem d_SJ_drop_30 : decode b_SJ_drop 30 = .ok (.getfield 12, 3) := by decide +kernel
theorem d_SJ_drop_33 : decode b_SJ_drop 33 = .ok (.getfield 36, 3) := by decide +kernel
theorem d_SJ_drop_36 : decode b_SJ_drop 36 = .ok (.ireturn, 1) := by decide +kernel
theorem d_SJ_check_0 : decode b_SJ_check 0 = .ok (.aload_n 0, 1) := by decide +kernel
theorem d_SJ_check_1 : decode b_SJ_check 1 = .ok (.getfield 12, 3) := by decide +kernel
theorem d_SJ_check_4 : decode b_SJ_check 4 = .ok (.getfield 36, 3) := by decide +kernel
theorem d_SJ_check_7 : decode b_SJ_check 7 = .ok (.ifCond .ne 6, 3) := by decide +kernel
theorem d_SJ_check_10 : decode b_SJ_check 10 = .ok (.bipush 64, 2) := by decide +kernel
theorem d_SJ_check_12 : decode b_SJ_check 12 = .ok (.ireturn, 1) := by decide +kernel
theorem d_SJ_check_13 : decode b_SJ_check 13 = .ok (.aload_n 0, 1) := by decide +kernel
theorem d_SJ_check_14 : decode b_SJ_check 14 = .ok (.getfield 21, 3) := by decide +kernel
theorem d_SJ_check_17 : decode b_SJ_check 17 = .ok (.aload_n 0, 1) := by decide +kernel
theorem d_SJ_check_18 : decode b_SJ_check 18 = .ok (.getfield 12, 3) := by decide +kernel
theorem d_SJ_check_21 : decode b_SJ_check 21 = .ok (.invokevirtual 43, 3) := by decide +kernel
theorem d_SJ_check_24 : decode b_SJ_check 24 = .ok (.aload_n 0, 1) := by decide +kernel
theorem d_SJ_check_25 : decode b_SJ_check 25 = .ok (.getfield 21, 3) := by decide +kernel
theorem d_SJ_check_28 : decode b_SJ_check 28 = .ok (.aload_n 0, 1) := by decide +kernel
theorem d_SJ_check_29 : decode b_SJ_check 29 = .ok (.getfield 12, 3) := by decide +kernel
theorem d_SJ_check_32 : decode b_SJ_check 32 = .ok (.invokevirtual 47, 3) := by decide +kernel
theorem d_SJ_check_35 : decode b_SJ_check 35 = .ok (.ireturn, 1) := by decide +kernel
theorem d_SJ_heights_0 : decode b_SJ_heights 0 = .ok (.aload_n 0, 1) := by decide +kernel
theorem d_SJ_heights_1 : decode b_SJ_heights 1 = .ok (.getfield 12, 3) := by decide +kernel
theorem d_SJ_heights_4 : decode b_SJ_heights 4 = .ok (.iload_n 1, 1) := by decide +kernel
theorem d_SJ_heights_5 : decode b_SJ_heights 5 = .ok (.invokevirtual 51, 3) := by decide +kernel
theorem d_SJ_heights_8 : decode b_SJ_heights 8 = .ok (.ifCond .ne 5, 3) := by decide +kernel
theorem d_SJ_heights_11 : decode b_SJ_heights 11 = .ok (.iconst (-1), 1) := by decide +kernel
theorem d_SJ_heights_12 : decode b_SJ_heights 12 = .ok (.ireturn, 1) := by decide +kernel
theorem d_SJ_heights_13 : decode b_SJ_heights 13 = .ok (.aload_n 0, 1) := by decide +kernel
theorem d_SJ_heights_14 : decode b_SJ_heights 14 = .ok (.getfield 21, 3) := by decide +kernel
theorem d_SJ_heights_17 : decode b_SJ_heights 17 = .ok (.aload_n 0, 1) := by decide +kernel
theorem d_SJ_heights_18 : decode b_SJ_heights 18 = .ok (.getfield 12, 3) := by decide +kernel
theorem d_SJ_heights_21 : decode b_SJ_heights 21 = .ok (.invokevirtual 43, 3) := by decide +kernel
theorem d_SJ_heights_24 : decode b_SJ_heights 24 = .ok (.aload_n 0, 1) := by decide +kernel
theorem d_SJ_heights_25 : decode b_SJ_heights 25 = .ok (.getfield 21, 3) := by decide +kernel
theorem d_SJ_heights_28 : decode b_SJ_heights 28 = .ok (.getfield 55, 3) := by decide +kernel
theorem d_SJ_heights_31 : decode b_SJ_heights 31 = .ok (.iload_n 1, 1) := by decide +kernel
theorem d_SJ_heights_32 : decode b_SJ_heights 32 = .ok (.invokestatic 59, 3) := by decide +kernel
theorem d_SJ_heights_35 : decode b_SJ_heights 35 = .ok (.ireturn, 1) := by decide +kernel
theorem d_SJ_call_0 : decode b_SJ_call 0 = .ok (.aload_n 0, 1) := by decide +kernel
theorem d_SJ_call_1 : decode b_SJ_call 1 = .ok (.invokevirtual 63, 3) := by decide +kernel
theorem d_SJ_call_4 : decode b_SJ_call 4 = .ok (.bipush (-2), 2) := by decide +kernel
theorem d_SJ_call_6 : decode b_SJ_call 6 = .ok (.if_icmp .eq 6, 3) := by decide +kernel
theorem d_SJ_call_9 : decode b_SJ_call 9 = .ok (.bipush (-2), 2) := by decide +kernel
theorem d_SJ_call_11 : decode b_SJ_call 11 = .ok (.ireturn, 1) := by decide +kernel
theorem d_SJ_call_12 : decode b_SJ_call 12 = .ok (.aload_n 0, 1) := by decide +kernel
theorem d_SJ_call_13 : decode b_SJ_call 13 = .ok (.getfield 28, 3) := by decide +kernel
theorem d_SJ_call_16 : decode b_SJ_call 16 = .ok (.aload_n 0, 1) := by decide +kernel
theorem d_SJ_call_17 : decode b_SJ_call 17 = .ok (.getfield 12, 3) := by decide +kernel
theorem d_SJ_call_20 : decode b_SJ_call 20 = .ok (.iload_n 1, 1) := by decide +kernel
theorem d_SJ_call_21 : decode b_SJ_call 21 = .ok (.iload_n 2, 1) := by decide +kernel
theorem d_SJ_call_22 : decode b_SJ_call 22 = .ok (.iload_n 3, 1) := by decide +kernel
theorem d_SJ_call_23 : decode b_SJ_call 23 = .ok (.invokevirtual 67, 3) := by decide +kernel
theorem d_SJ_call_26 : decode b_SJ_call 26 = .ok (.ireturn, 1) := by decide +kernel
theorem d_SJ_result_0 : decode b_SJ_result 0 = .ok (.aload_n 0, 1) := by decide +kernel
theorem d_SJ_result_1 : decode b_SJ_result 1 = .ok (.getfield 28, 3) := by decide +kernel
theorem d_SJ_result_4 : decode b_SJ_result 4 = .ok (.getfield 71, 3) := by decide +kernel
theorem d_SJ_result_7 : decode b_SJ_result 7 = .ok (.ireturn, 1) := by decide +kernel
theorem d_SJ_steps_0 : decode b_SJ_steps 0 = .ok (.aload_n 0, 1) := by decide +kernel
theorem d_SJ_steps_1 : decode b_SJ_steps 1 = .ok (.getfield 28, 3) := by decide +kernel
theorem d_SJ_steps_4 : decode b_SJ_steps 4 = .ok (.getfield 74, 3) := by decide +kernel
theorem d_SJ_steps_7 : decode b_SJ_steps 7 = .ok (.ireturn, 1) := by decide +kernel
theorem d_SJ_pairs_0 : decode b_SJ_pairs 0 = .ok (.aload_n 0, 1) := by decide +kernel
theorem d_SJ_pairs_1 : decode b_SJ_pairs 1 = .ok (.getfield 28, 3) := by decide +kernel
theorem d_SJ_pairs_4 : decode b_SJ_pairs 4 = .ok (.getfield 77, 3) := by decide +kernel
theorem d_SJ_pairs_7 : decode b_SJ_pairs 7 = .ok (.ireturn, 1) := by decide +kernel
theorem d_SJ_pair_0 : decode b_SJ_pair 0 = .ok (.iload_n 1, 1) := by decide +kernel
theorem d_SJ_pair_1 : decode b_SJ_pair 1 = .ok (.ifCond .lt 14, 3) := by decide +kernel
theorem d_SJ_pair_4 : decode b_SJ_pair 4 = .ok (.iload_n 1, 1) := by decide +kernel
theorem d_SJ_pair_5 : decode b_SJ_pair 5 = .ok (.aload_n 0, 1) := by decide +kernel
theorem d_SJ_pair_6 : decode b_SJ_pair 6 = .ok (.getfield 28, 3) := by decide +kernel
theorem d_SJ_pair_9 : decode b_SJ_pair 9 = .ok (.getfield 77, 3) := by decide +kernel
theorem d_SJ_pair_12 : decode b_SJ_pair 12 = .ok (.if_icmp .lt 7, 3) := by decide +kernel
theorem d_SJ_pair_15 : decode b_SJ_pair 15 = .ok (.ldc2_w 80, 3) := by decide +kernel
theorem d_SJ_pair_18 : decode b_SJ_pair 18 = .ok (.lreturn, 1) := by decide +kernel
theorem d_SJ_pair_19 : decode b_SJ_pair 19 = .ok (.iload_n 2, 1) := by decide +kernel
theorem d_SJ_pair_20 : decode b_SJ_pair 20 = .ok (.lookupswitch 54 #[(0, 28), (1, 41)], 28) := by decide +kernel
theorem d_SJ_pair_48 : decode b_SJ_pair 48 = .ok (.aload_n 0, 1) := by decide +kernel
theorem d_SJ_pair_49 : decode b_SJ_pair 49 = .ok (.getfield 28, 3) := by decide +kernel
theorem d_SJ_pair_52 : decode b_SJ_pair 52 = .ok (.getfield 82, 3) := by decide +kernel
theorem d_SJ_pair_55 : decode b_SJ_pair 55 = .ok (.iload_n 1, 1) := by decide +kernel
theorem d_SJ_pair_56 : decode b_SJ_pair 56 = .ok (.invokestatic 59, 3) := by decide +kernel
theorem d_SJ_pair_59 : decode b_SJ_pair 59 = .ok (.i2l, 1) := by decide +kernel
theorem d_SJ_pair_60 : decode b_SJ_pair 60 = .ok (.lreturn, 1) := by decide +kernel
theorem d_SJ_pair_61 : decode b_SJ_pair 61 = .ok (.aload_n 0, 1) := by decide +kernel
theorem d_SJ_pair_62 : decode b_SJ_pair 62 = .ok (.getfield 28, 3) := by decide +kernel
theorem d_SJ_pair_65 : decode b_SJ_pair 65 = .ok (.getfield 85, 3) := by decide +kernel
theorem d_SJ_pair_68 : decode b_SJ_pair 68 = .ok (.iload_n 1, 1) := by decide +kernel
theorem d_SJ_pair_69 : decode b_SJ_pair 69 = .ok (.invokestatic 59, 3) := by decide +kernel
theorem d_SJ_pair_72 : decode b_SJ_pair 72 = .ok (.i2l, 1) := by decide +kernel
theorem d_SJ_pair_73 : decode b_SJ_pair 73 = .ok (.lreturn, 1) := by decide +kernel
theorem d_SJ_pair_74 : decode b_SJ_pair 74 = .ok (.ldc2_w 80, 3) := by decide +kernel
theorem d_SJ_pair_77 : decode b_SJ_pair 77 = .ok (.lreturn, 1) := by decide +kernel
theorem d_SJ_read_0 : decode b_SJ_read 0 = .ok (.iload_n 1, 1) := by decide +kernel
theorem d_SJ_read_1 : decode b_SJ_read 1 = .ok (.ifCond .lt 15, 3) := by decide +kernel
theorem d_SJ_read_4 : decode b_SJ_read 4 = .ok (.iload_n 1, 1) := by decide +kernel
theorem d_SJ_read_5 : decode b_SJ_read 5 = .ok (.aload_n 0, 1) := by decide +kernel
theorem d_SJ_read_6 : decode b_SJ_read 6 = .ok (.arraylength, 1) := by decide +kernel
theorem d_SJ_read_7 : decode b_SJ_read 7 = .ok (.if_icmp .ge 9, 3) := by decide +kernel
theorem d_SJ_read_10 : decode b_SJ_read 10 = .ok (.aload_n 0, 1) := by decide +kernel
theorem d_SJ_read_11 : decode b_SJ_read 11 = .ok (.iload_n 1, 1) := by decide +kernel
theorem d_SJ_read_12 : decode b_SJ_read 12 = .ok (.iaload, 1) := by decide +kernel
theorem d_SJ_read_13 : decode b_SJ_read 13 = .ok (.goto 4, 3) := by decide +kernel
theorem d_SJ_read_16 : decode b_SJ_read 16 = .ok (.iconst 0, 1) := by decide +kernel
theorem d_SJ_read_17 : decode b_SJ_read 17 = .ok (.ireturn, 1) := by decide +kernel
theorem d_SJ_write_0 : decode b_SJ_write 0 = .ok (.iload_n 1, 1) := by decide +kernel
theorem d_SJ_write_1 : decode b_SJ_write 1 = .ok (.ifCond .lt 13, 3) := by decide +kernel
theorem d_SJ_write_4 : decode b_SJ_write 4 = .ok (.iload_n 1, 1) := by decide +kernel
theorem d_SJ_write_5 : decode b_SJ_write 5 = .ok (.aload_n 0, 1) := by decide +kernel
theorem d_SJ_write_6 : decode b_SJ_write 6 = .ok (.arraylength, 1) := by decide +kernel
theorem d_SJ_write_7 : decode b_SJ_write 7 = .ok (.if_icmp .ge 7, 3) := by decide +kernel
theorem d_SJ_write_10 : decode b_SJ_write 10 = .ok (.aload_n 0, 1) := by decide +kernel
theorem d_SJ_write_11 : decode b_SJ_write 11 = .ok (.iload_n 1, 1) := by decide +kernel
theorem d_SJ_write_12 : decode b_SJ_write 12 = .ok (.iload_n 2, 1) := by decide +kernel
theorem d_SJ_write_13 : decode b_SJ_write 13 = .ok (.iastore, 1) := by decide +kernel
theorem d_SJ_write_14 : decode b_SJ_write 14 = .ok (.return_, 1) := by decide +kernel
theorem d_Machine_init_0 : decode b_Machine_init 0 = .ok (.aload_n 0, 1) := by decide +kernel
theorem d_Machine_init_1 : decode b_Machine_init 1 = .ok (.invokespecial 3, 3) := by decide +kernel
theorem d_Machine_init_4 : decode b_Machine_init 4 = .ok (.aload_n 0, 1) := by decide +kernel
theorem d_Machine_init_5 : decode b_Machine_init 5 = .ok (.bipush 20, 2) := by decide +kernel
theorem d_Machine_init_7 : decode b_Machine_init 7 = .ok (.newarray .int, 2) := by decide +kernel
theorem d_Machine_init_9 : decode b_Machine_init 9 = .ok (.putfield 9, 3) := by decide +kernel
theorem d_Machine_init_12 : decode b_Machine_init 12 = .ok (.aload_n 0, 1) := by decide +kernel
theorem d_Machine_init_13 : decode b_Machine_init 13 = .ok (.bipush 20, 2) := by decide +kernel
theorem d_Machine_init_15 : decode b_Machine_init 15 = .ok (.newarray .int, 2) := by decide +kernel
theorem d_Machine_init_17 : decode b_Machine_init 17 = .ok (.putfield 15, 3) := by decide +kernel
theorem d_Machine_init_20 : decode b_Machine_init 20 = .ok (.aload_n 0, 1) := by decide +kernel
theorem d_Machine_init_21 : decode b_Machine_init 21 = .ok (.iconst 3, 1) := by decide +kernel
theorem d_Machine_init_22 : decode b_Machine_init 22 = .ok (.newarray .int, 2) := by decide +kernel
theorem d_Machine_init_24 : decode b_Machine_init 24 = .ok (.putfield 18, 3) := by decide +kernel
theorem d_Machine_init_27 : decode b_Machine_init 27 = .ok (.aload_n 0, 1) := by decide +kernel
theorem d_Machine_init_28 : decode b_Machine_init 28 = .ok (.iconst 4, 1) := by decide +kernel
theorem d_Machine_init_29 : decode b_Machine_init 29 = .ok (.newarray .int, 2) := by decide +kernel
theorem d_Machine_init_31 : decode b_Machine_init 31 = .ok (.putfield 21, 3) := by decide +kernel
theorem d_Machine_init_34 : decode b_Machine_init 34 = .ok (.aload_n 0, 1) := by decide +kernel
theorem d_Machine_init_35 : decode b_Machine_init 35 = .ok (.bipush 8, 2) := by decide +kernel
theorem d_Machine_init_37 : decode b_Machine_init 37 = .ok (.newarray .int, 2) := by decide +kernel
theorem d_Machine_init_39 : decode b_Machine_init 39 = .ok (.putfield 24, 3) := by decide +kernel
theorem d_Machine_init_42 : decode b_Machine_init 42 = .ok (.return_, 1) := by decide +kernel
theorem d_Machine_run_0 : decode b_Machine_run 0 = .ok (.aload_n 0, 1) := by decide +kernel
theorem d_Machine_run_1 : decode b_Machine_run 1 = .ok (.iload_n 2, 1) := by decide +kernel
theorem d_Machine_run_2 : decode b_Machine_run 2 = .ok (.iload_n 3, 1) := by decide +kernel
theorem d_Machine_run_3 : decode b_Machine_run 3 = .ok (.iload 4, 2) := by decide +kernel
theorem d_Machine_run_5 : decode b_Machine_run 5 = .ok (.invokevirtual 27, 3) := by decide +kernel
theorem d_Machine_run_8 : decode b_Machine_run 8 = .ok (.iconst 3, 1) := by decide +kernel
theorem d_Machine_run_9 : decode b_Machine_run 9 = .ok (.istore 5, 2) := by decide +kernel
theorem d_Machine_run_11 : decode b_Machine_run 11 = .ok (.iconst 0, 1) := by decide +kernel
theorem d_Machine_run_12 : decode b_Machine_run 12 = .ok (.istore 6, 2) := by decide +kernel
theorem d_Machine_run_14 : decode b_Machine_run 14 = .ok (.iload 6, 2) := by decide +kernel
theorem d_Machine_run_16 : decode b_Machine_run 16 = .ok (.sipush 300, 3) := by decide +kernel
theorem d_Machine_run_19 : decode b_Machine_run 19 = .ok (.if_icmp .ge 51, 3) := by decide +kernel
theorem d_Machine_run_22 : decode b_Machine_run 22 = .ok (.iload 5, 2) := by decide +kernel
theorem d_Machine_run_24 : decode b_Machine_run 24 = .ok (.iconst 3, 1) := by decide +kernel
theorem d_Machine_run_25 : decode b_Machine_run 25 = .ok (.if_icmp .ne 45, 3) := by decide +kernel
theorem d_Machine_run_28 : decode b_Machine_run 28 = .ok (.aload_n 0, 1) := by decide +kernel
theorem d_Machine_run_29 : decode b_Machine_run 29 = .ok (.dup, 1) := by decide +kernel
theorem d_Machine_run_30 : decode b_Machine_run 30 = .ok (.getfield 31, 3) := by decide +kernel
theorem d_Machine_run_33 : decode b_Machine_run 33 = .ok (.iconst 1, 1) := by decide +kernel
theorem d_Machine_run_34 : decode b_Machine_run 34 = .ok (.iadd, 1) := by decide +kernel
theorem d_Machine_run_35 : decode b_Machine_run 35 = .ok (.putfield 31, 3) := by decide +kernel
theorem d_Machine_run_38 : decode b_Machine_run 38 = .ok (.aload_n 0, 1) := by decide +kernel
theorem d_Machine_run_39 : decode b_Machine_run 39 = .ok (.aload_n 1, 1) := by decide +kernel
theorem d_Machine_run_40 : decode b_Machine_run 40 = .ok (.aload_n 0, 1) := by decide +kernel
theorem d_Machine_run_41 : decode b_Machine_run 41 = .ok (.getfield 35, 3) := by decide +kernel
theorem d_Machine_run_44 : decode b_Machine_run 44 = .ok (.invokevirtual 38, 3) := by decide +kernel
theorem d_Machine_run_47 : decode b_Machine_run 47 = .ok (.aload_n 1, 1) := by decide +kernel
theorem d_Machine_run_48 : decode b_Machine_run 48 = .ok (.aload_n 0, 1) := by decide +kernel
theorem d_Machine_run_49 : decode b_Machine_run 49 = .ok (.getfield 35, 3) := by decide +kernel
theorem d_Machine_run_52 : decode b_Machine_run 52 = .ok (.invokevirtual 44, 3) := by decide +kernel
theorem d_Machine_run_55 : decode b_Machine_run 55 = .ok (.aload_n 1, 1) := by decide +kernel
theorem d_Machine_run_56 : decode b_Machine_run 56 = .ok (.getfield 47, 3) := by decide +kernel
theorem d_Machine_run_59 : decode b_Machine_run 59 = .ok (.invokevirtual 50, 3) := by decide +kernel
theorem d_Machine_run_62 : decode b_Machine_run 62 = .ok (.istore 5, 2) := by decide +kernel
theorem d_Machine_run_64 : decode b_Machine_run 64 = .ok (.iinc 6 1, 3) := by decide +kernel
theorem d_Machine_run_67 : decode b_Machine_run 67 = .ok (.goto (-53), 3) := by decide +kernel
theorem d_Machine_run_70 : decode b_Machine_run 70 = .ok (.iload 5, 2) := by decide +kernel
theorem d_Machine_run_72 : decode b_Machine_run 72 = .ok (.iconst 3, 1) := by decide +kernel
theorem d_Machine_run_73 : decode b_Machine_run 73 = .ok (.if_icmp .eq 9, 3) := by decide +kernel
theorem d_Machine_run_76 : decode b_Machine_run 76 = .ok (.iload 5, 2) := by decide +kernel
theorem d_Machine_run_78 : decode b_Machine_run 78 = .ok (.iconst 2, 1) := by decide +kernel
theorem d_Machine_run_79 : decode b_Machine_run 79 = .ok (.if_icmp .ne 10, 3) := by decide +kernel
theorem d_Machine_run_82 : decode b_Machine_run 82 = .ok (.aload_n 0, 1) := by decide +kernel
theorem d_Machine_run_83 : decode b_Machine_run 83 = .ok (.iconst 0, 1) := by decide +kernel
theorem d_Machine_run_84 : decode b_Machine_run 84 = .ok (.putfield 54, 3) := by decide +kernel
theorem d_Machine_run_87 : decode b_Machine_run 87 = .ok (.iconst 2, 1) := by decide +kernel
theorem d_Machine_run_88 : decode b_Machine_run 88 = .ok (.ireturn, 1) := by decide +kernel
theorem d_Machine_run_89 : decode b_Machine_run 89 = .ok (.iload 5, 2) := by decide +kernel
theorem d_Machine_run_91 : decode b_Machine_run 91 = .ok (.ireturn, 1) := by decide +kernel
theorem d_Machine_begin_0 : decode b_Machine_begin 0 = .ok (.aload_n 0, 1) := by decide +kernel
theorem d_Machine_begin_1 : decode b_Machine_begin 1 = .ok (.getfield 18, 3) := by decide +kernel
theorem d_Machine_begin_4 : decode b_Machine_begin 4 = .ok (.iconst 0, 1) := by decide +kernel
theorem d_Machine_begin_5 : decode b_Machine_begin 5 = .ok (.iload_n 1, 1) := by decide +kernel
theorem d_Machine_begin_6 : decode b_Machine_begin 6 = .ok (.invokestatic 57, 3) := by decide +kernel
theorem d_Machine_begin_9 : decode b_Machine_begin 9 = .ok (.aload_n 0, 1) := by decide +kernel
theorem d_Machine_begin_10 : decode b_Machine_begin 10 = .ok (.getfield 18, 3) := by decide +kernel
theorem d_Machine_begin_13 : decode b_Machine_begin 13 = .ok (.iconst 1, 1) := by decide +kernel
theorem d_Machine_begin_14 : decode b_Machine_begin 14 = .ok (.iload_n 2, 1) := by decide +kernel
theorem d_Machine_begin_15 : decode b_Machine_begin 15 = .ok (.invokestatic 57, 3) := by decide +kernel
theorem d_Machine_begin_18 : decode b_Machine_begin 18 = .ok (.aload_n 0, 1) := by decide +kernel
theorem d_Machine_begin_19 : decode b_Machine_begin 19 = .ok (.getfield 18, 3) := by decide +kernel
theorem d_Machine_begin_22 : decode b_Machine_begin 22 = .ok (.iconst 2, 1) := by decide +kernel
theorem d_Machine_begin_23 : decode b_Machine_begin 23 = .ok (.iload_n 3, 1) := by decide +kernel
theorem d_Machine_begin_24 : decode b_Machine_begin 24 = .ok (.invokestatic 57, 3) := by decide +kernel
theorem d_Machine_begin_27 : decode b_Machine_begin 27 = .ok (.aload_n 0, 1) := by decide +kernel
theorem d_Machine_begin_28 : decode b_Machine_begin 28 = .ok (.getfield 21, 3) := by decide +kernel
theorem d_Machine_begin_31 : decode b_Machine_begin 31 = .ok (.iconst 0, 1) := by decide +kernel
theorem d_Machine_begin_32 : decode b_Machine_begin 32 = .ok (.invokestatic 61, 3) := by decide +kernel
theorem d_Machine_begin_35 : decode b_Machine_begin 35 = .ok (.aload_n 0, 1) := by decide +kernel
theorem d_Machine_begin_36 : decode b_Machine_begin 36 = .ok (.iconst 0, 1) := by decide +kernel
theorem d_Machine_begin_37 : decode b_Machine_begin 37 = .ok (.putfield 67, 3) := by decide +kernel
theorem d_Machine_begin_40 : decode b_Machine_begin 40 = .ok (.aload_n 0, 1) := by decide +kernel
theorem d_Machine_begin_41 : decode b_Machine_begin 41 = .ok (.iconst 0, 1) := by decide +kernel
theorem d_Machine_begin_42 : decode b_Machine_begin 42 = .ok (.putfield 35, 3) := by decide +kernel
theorem d_Machine_begin_45 : decode b_Machine_begin 45 = .ok (.aload_n 0, 1) := by decide +kernel
theorem d_Machine_begin_46 : decode b_Machine_begin 46 = .ok (.iconst 0, 1) := by decide +kernel
theorem d_Machine_begin_47 : decode b_Machine_begin 47 = .ok (.putfield 70, 3) := by decide +kernel
theorem d_Machine_begin_50 : decode b_Machine_begin 50 = .ok (.aload_n 0, 1) := by decide +kernel
theorem d_Machine_begin_51 : decode b_Machine_begin 51 = .ok (.iconst 0, 1) := by decide +kernel
theorem d_Machine_begin_52 : decode b_Machine_begin 52 = .ok (.putfield 31, 3) := by decide +kernel
theorem d_Machine_begin_55 : decode b_Machine_begin 55 = .ok (.aload_n 0, 1) := by decide +kernel
theorem d_Machine_begin_56 : decode b_Machine_begin 56 = .ok (.iconst 0, 1) := by decide +kernel
theorem d_Machine_begin_57 : decode b_Machine_begin 57 = .ok (.putfield 54, 3) := by decide +kernel
theorem d_Machine_begin_60 : decode b_Machine_begin 60 = .ok (.return_, 1) := by decide +kernel
theorem d_Machine_doOne_0 : decode b_Machine_doOne 0 = .ok (.aload_n 0, 1) := by decide +kernel
theorem d_Machine_doOne_1 : decode b_Machine_doOne 1 = .ok (.dup, 1) := by decide +kernel
theorem d_Machine_doOne_2 : decode b_Machine_doOne 2 = .ok (.getfield 35, 3) := by decide +kernel
theorem d_Machine_doOne_5 : decode b_Machine_doOne 5 = .ok (.iconst 1, 1) := by decide +kernel
theorem d_Machine_doOne_6 : decode b_Machine_doOne 6 = .ok (.iadd, 1) := by decide +kernel
theorem d_Machine_doOne_7 : decode b_Machine_doOne 7 = .ok (.putfield 35, 3) := by decide +kernel
theorem d_Machine_doOne_10 : decode b_Machine_doOne 10 = .ok (.iload_n 1, 1) := by decide +kernel
theorem d_Machine_doOne_11 : decode b_Machine_doOne 11 = .ok (.tableswitch 79 14 18 #[33, 40, 54, 59, 77], 33) := by decide +kernel
theorem d_Machine_doOne_44 : decode b_Machine_doOne 44 = .ok (.aload_n 0, 1) := by decide +kernel
theorem d_Machine_doOne_45 : decode b_Machine_doOne 45 = .ok (.iload_n 2, 1) := by decide +kernel
theorem d_Machine_doOne_46 : decode b_Machine_doOne 46 = .ok (.putfield 35, 3) := by decide +kernel
theorem d_Machine_doOne_49 : decode b_Machine_doOne 49 = .ok (.iconst 3, 1) := by decide +kernel
theorem d_Machine_doOne_50 : decode b_Machine_doOne 50 = .ok (.ireturn, 1) := by decide +kernel
theorem d_Machine_doOne_51 : decode b_Machine_doOne 51 = .ok (.aload_n 0, 1) := by decide +kernel
theorem d_Machine_doOne_52 : decode b_Machine_doOne 52 = .ok (.invokevirtual 73, 3) := by decide +kernel
theorem d_Machine_doOne_55 : decode b_Machine_doOne 55 = .ok (.ifCond .ne 8, 3) := by decide +kernel
theorem d_Machine_doOne_58 : decode b_Machine_doOne 58 = .ok (.aload_n 0, 1) := by decide +kernel
theorem d_Machine_doOne_59 : decode b_Machine_doOne 59 = .ok (.iload_n 2, 1) := by decide +kernel
theorem d_Machine_doOne_60 : decode b_Machine_doOne 60 = .ok (.putfield 35, 3) := by decide +kernel
theorem d_Machine_doOne_63 : decode b_Machine_doOne 63 = .ok (.iconst 3, 1) := by decide +kernel
theorem d_Machine_doOne_64 : decode b_Machine_doOne 64 = .ok (.ireturn, 1) := by decide +kernel
theorem d_Machine_doOne_65 : decode b_Machine_doOne 65 = .ok (.aload_n 0, 1) := by decide +kernel
theorem d_Machine_doOne_66 : decode b_Machine_doOne 66 = .ok (.invokevirtual 77, 3) := by decide +kernel
theorem d_Machine_doOne_69 : decode b_Machine_doOne 69 = .ok (.ireturn, 1) := by decide +kernel
theorem d_Machine_doOne_70 : decode b_Machine_doOne 70 = .ok (.aload_n 0, 1) := by decide +kernel
theorem d_Machine_doOne_71 : decode b_Machine_doOne 71 = .ok (.iload_n 3, 1) := by decide +kernel
theorem d_Machine_doOne_72 : decode b_Machine_doOne 72 = .ok (.ifCond .ne 7, 3) := by decide +kernel
theorem d_Machine_doOne_75 : decode b_Machine_doOne 75 = .ok (.iconst 0, 1) := by decide +kernel
theorem d_Machine_doOne_76 : decode b_Machine_doOne 76 = .ok (.goto 7, 3) := by decide +kernel
theorem d_Machine_doOne_79 : decode b_Machine_doOne 79 = .ok (.aload_n 0, 1) := by decide +kernel
theorem d_Machine_doOne_80 : decode b_Machine_doOne 80 = .ok (.invokevirtual 73, 3) := by decide +kernel
theorem d_Machine_doOne_83 : decode b_Machine_doOne 83 = .ok (.putfield 70, 3) := by decide +kernel
theorem d_Machine_doOne_86 : decode b_Machine_doOne 86 = .ok (.iconst 0, 1) := by decide +kernel
theorem d_Machine_doOne_87 : decode b_Machine_doOne 87 = .ok (.ireturn, 1) := by decide +kernel
theorem d_Machine_doOne_88 : decode b_Machine_doOne 88 = .ok (.iconst 1, 1) := by decide +kernel
theorem d_Machine_doOne_89 : decode b_Machine_doOne 89 = .ok (.ireturn, 1) := by decide +kernel
theorem d_Machine_doOne_90 : decode b_Machine_doOne 90 = .ok (.aload_n 0, 1) := by decide +kernel
theorem d_Machine_doOne_91 : decode b_Machine_doOne 91 = .ok (.iload_n 1, 1) := by decide +kernel
theorem d_Machine_doOne_92 : decode b_Machine_doOne 92 = .ok (.iload_n 2, 1) := by decide +kernel
theorem d_Machine_doOne_93 : decode b_Machine_doOne 93 = .ok (.invokevirtual 80, 3) := by decide +kernel
theorem d_Machine_doOne_96 : decode b_Machine_doOne 96 = .ok (.iconst 3, 1) := by decide +kernel
theorem d_Machine_doOne_97 : decode b_Machine_doOne 97 = .ok (.ireturn, 1) := by decide +kernel
theorem d_Machine_move_0 : decode b_Machine_move 0 = .ok (.iload_n 1, 1) := by decide +kernel
theorem d_Machine_move_1 : decode b_Machine_move 1 = .ok (.tableswitch 149 0 6 #[43, 51, 66, 81, 104, 122, 96], 43) := by decide +kernel
theorem d_Machine_move_44 : decode b_Machine_move 44 = .ok (.aload_n 0, 1) := by decide +kernel
theorem d_Machine_move_45 : decode b_Machine_move 45 = .ok (.iload_n 2, 1) := by decide +kernel
theorem d_Machine_move_46 : decode b_Machine_move 46 = .ok (.invokevirtual 84, 3) := by decide +kernel
theorem d_Machine_move_49 : decode b_Machine_move 49 = .ok (.goto 125, 3) := by decide +kernel
theorem d_Machine_move_52 : decode b_Machine_move 52 = .ok (.aload_n 0, 1) := by decide +kernel
theorem d_Machine_move_53 : decode b_Machine_move 53 = .ok (.aload_n 0, 1) := by decide +kernel
theorem d_Machine_move_54 : decode b_Machine_move 54 = .ok (.getfield 18, 3) := by decide +kernel
theorem d_Machine_move_57 : decode b_Machine_move 57 = .ok (.iload_n 2, 1) := by decide +kernel
theorem d_Machine_move_58 : decode b_Machine_move 58 = .ok (.invokestatic 88, 3) := by decide +kernel
theorem d_Machine_move_61 : decode b_Machine_move 61 = .ok (.invokevirtual 84, 3) := by decide +kernel
theorem d_Machine_move_64 : decode b_Machine_move 64 = .ok (.goto 110, 3) := by decide +kernel
theorem d_Machine_move_67 : decode b_Machine_move 67 = .ok (.aload_n 0, 1) := by decide +kernel
theorem d_Machine_move_68 : decode b_Machine_move 68 = .ok (.aload_n 0, 1) := by decide +kernel
theorem d_Machine_move_69 : decode b_Machine_move 69 = .ok (.getfield 21, 3) := by decide +kernel
theorem d_Machine_move_72 : decode b_Machine_move 72 = .ok (.iload_n 2, 1) := by decide +kernel
theorem d_Machine_move_73 : decode b_Machine_move 73 = .ok (.invokestatic 88, 3) := by decide +kernel
theorem d_Machine_move_76 : decode b_Machine_move 76 = .ok (.invokevirtual 84, 3) := by decide +kernel
theorem d_Machine_move_79 : decode b_Machine_move 79 = .ok (.goto 95, 3) := by decide +kernel
theorem d_Machine_move_82 : decode b_Machine_move 82 = .ok (.aload_n 0, 1) := by decide +kernel
theorem d_Machine_move_83 : decode b_Machine_move 83 = .ok (.getfield 21, 3) := by decide +kernel
theorem d_Machine_move_86 : decode b_Machine_move 86 = .ok (.iload_n 2, 1) := by decide +kernel
theorem d_Machine_move_87 : decode b_Machine_move 87 = .ok (.aload_n 0, 1) := by decide +kernel
theorem d_Machine_move_88 : decode b_Machine_move 88 = .ok (.invokevirtual 73, 3) := by decide +kernel
theorem d_Machine_move_91 : decode b_Machine_move 91 = .ok (.invokestatic 57, 3) := by decide +kernel
theorem d_Machine_move_94 : decode b_Machine_move 94 = .ok (.goto 80, 3) := by decide +kernel
theorem d_Machine_move_97 : decode b_Machine_move 97 = .ok (.aload_n 0, 1) := by decide +kernel
theorem d_Machine_move_98 : decode b_Machine_move 98 = .ok (.invokevirtual 73, 3) := by decide +kernel
theorem d_Machine_move_101 : decode b_Machine_move 101 = .ok (.pop, 1) := by decide +kernel
theorem d_Machine_move_102 : decode b_Machine_move 102 = .ok (.goto 72, 3) := by decide +kernel
theorem d_Machine_move_105 : decode b_Machine_move 105 = .ok (.aload_n 0, 1) := by decide +kernel
theorem d_Machine_move_106 : decode b_Machine_move 106 = .ok (.invokevirtual 73, 3) := by decide +kernel
theorem d_Machine_move_109 : decode b_Machine_move 109 = .ok (.istore_n 3, 1) := by decide +kernel
theorem d_Machine_move_110 : decode b_Machine_move 110 = .ok (.aload_n 0, 1) := by decide +kernel
theorem d_Machine_move_111 : decode b_Machine_move 111 = .ok (.iload_n 3, 1) := by decide +kernel
theorem d_Machine_move_112 : decode b_Machine_move 112 = .ok (.invokevirtual 84, 3) := by decide +kernel
theorem d_Machine_move_115 : decode b_Machine_move 115 = .ok (.aload_n 0, 1) := by decide +kernel
theorem d_Machine_move_116 : decode b_Machine_move 116 = .ok (.iload_n 3, 1) := by decide +kernel
theorem d_Machine_move_117 : decode b_Machine_move 117 = .ok (.invokevirtual 84, 3) := by decide +kernel
theorem d_Machine_move_120 : decode b_Machine_move 120 = .ok (.goto 54, 3) := by decide +kernel
theorem d_Machine_move_123 : decode b_Machine_move 123 = .ok (.aload_n 0, 1) := by decide +kernel
theorem d_Machine_move_124 : decode b_Machine_move 124 = .ok (.invokevirtual 73, 3) := by decide +kernel
theorem d_Machine_move_127 : decode b_Machine_move 127 = .ok (.istore 4, 2) := by decide +kernel
theorem d_Machine_move_129 : decode b_Machine_move 129 = .ok (.aload_n 0, 1) := by decide +kernel
theorem d_Machine_move_130 : decode b_Machine_move 130 = .ok (.invokevirtual 73, 3) := by decide +kernel
theorem d_Machine_move_133 : decode b_Machine_move 133 = .ok (.istore 5, 2) := by decide +kernel
theorem d_Machine_move_135 : decode b_Machine_move 135 = .ok (.aload_n 0, 1) := by decide +kernel
theorem d_Machine_move_136 : decode b_Machine_move 136 = .ok (.iload 4, 2) := by decide +kernel
theorem d_Machine_move_138 : decode b_Machine_move 138 = .ok (.invokevirtual 84, 3) := by decide +kernel
theorem d_Machine_move_141 : decode b_Machine_move 141 = .ok (.aload_n 0, 1) := by decide +kernel
theorem d_Machine_move_142 : decode b_Machine_move 142 = .ok (.iload 5, 2) := by decide +kernel
theorem d_Machine_move_144 : decode b_Machine_move 144 = .ok (.invokevirtual 84, 3) := by decide +kernel
theorem d_Machine_move_147 : decode b_Machine_move 147 = .ok (.goto 27, 3) := by decide +kernel
theorem d_Machine_move_150 : decode b_Machine_move 150 = .ok (.aload_n 0, 1) := by decide +kernel
theorem d_Machine_move_151 : decode b_Machine_move 151 = .ok (.invokevirtual 73, 3) := by decide +kernel
theorem d_Machine_move_154 : decode b_Machine_move 154 = .ok (.istore 6, 2) := by decide +kernel
theorem d_Machine_move_156 : decode b_Machine_move 156 = .ok (.aload_n 0, 1) := by decide +kernel
theorem d_Machine_move_157 : decode b_Machine_move 157 = .ok (.invokevirtual 73, 3) := by decide +kernel
theorem d_Machine_move_160 : decode b_Machine_move 160 = .ok (.istore 7, 2) := by decide +kernel
theorem d_Machine_move_162 : decode b_Machine_move 162 = .ok (.aload_n 0, 1) := by decide +kernel
theorem d_Machine_move_163 : decode b_Machine_move 163 = .ok (.iload_n 1, 1) := by decide +kernel
theorem d_Machine_move_164 : decode b_Machine_move 164 = .ok (.iload 7, 2) := by decide +kernel
theorem d_Machine_move_166 : decode b_Machine_move 166 = .ok (.iload 6, 2) := by decide +kernel
theorem d_Machine_move_168 : decode b_Machine_move 168 = .ok (.invokestatic 92, 3) := by decide +kernel
theorem d_Machine_move_171 : decode b_Machine_move 171 = .ok (.invokevirtual 84, 3) := by decide +kernel
theorem d_Machine_move_174 : decode b_Machine_move 174 = .ok (.return_, 1) := by decide +kernel
theorem d_Machine_combine_0 : decode b_Machine_combine 0 = .ok (.iload_n 0, 1) := by decide +kernel
theorem d_Machine_combine_1 : decode b_Machine_combine 1 = .ok (.tableswitch 86 7 12 #[39, 43, 47, 51, 63, 75], 39) := by decide +kernel
theorem d_Machine_combine_40 : decode b_Machine_combine 40 = .ok (.iload_n 1, 1) := by decide +kernel
theorem d_Machine_combine_41 : decode b_Machine_combine 41 = .ok (.iload_n 2, 1) := by decide +kernel
theorem d_Machine_combine_42 : decode b_Machine_combine 42 = .ok (.iadd, 1) := by decide +kernel
theorem d_Machine_combine_43 : decode b_Machine_combine 43 = .ok (.ireturn, 1) := by decide +kernel
theorem d_Machine_combine_44 : decode b_Machine_combine 44 = .ok (.iload_n 1, 1) := by decide +kernel
theorem d_Machine_combine_45 : decode b_Machine_combine 45 = .ok (.iload_n 2, 1) := by decide +kernel
theorem d_Machine_combine_46 : decode b_Machine_combine 46 = .ok (.isub, 1) := by decide +kernel
theorem d_Machine_combine_47 : decode b_Machine_combine 47 = .ok (.ireturn, 1) := by decide +kernel
theorem d_Machine_combine_48 : decode b_Machine_combine 48 = .ok (.iload_n 1, 1) := by decide +kernel
theorem d_Machine_combine_49 : decode b_Machine_combine 49 = .ok (.iload_n 2, 1) := by decide +kernel
theorem d_Machine_combine_50 : decode b_Machine_combine 50 = .ok (.imul, 1) := by decide +kernel
theorem d_Machine_combine_51 : decode b_Machine_combine 51 = .ok (.ireturn, 1) := by decide +kernel
theorem d_Machine_combine_52 : decode b_Machine_combine 52 = .ok (.iload_n 2, 1) := by decide +kernel
theorem d_Machine_combine_53 : decode b_Machine_combine 53 = .ok (.ifCond .ne 7, 3) := by decide +kernel
theorem d_Machine_combine_56 : decode b_Machine_combine 56 = .ok (.iconst 0, 1) := by decide +kernel
theorem d_Machine_combine_57 : decode b_Machine_combine 57 = .ok (.goto 6, 3) := by decide +kernel
theorem d_Machine_combine_60 : decode b_Machine_combine 60 = .ok (.iload_n 1, 1) := by decide +kernel
theorem d_Machine_combine_61 : decode b_Machine_combine 61 = .ok (.iload_n 2, 1) := by decide +kernel
theorem d_Machine_combine_62 : decode b_Machine_combine 62 = .ok (.idiv, 1) := by decide +kernel
theorem d_Machine_combine_63 : decode b_Machine_combine 63 = .ok (.ireturn, 1) := by decide +kernel
theorem d_Machine_combine_64 : decode b_Machine_combine 64 = .ok (.iload_n 2, 1) := by decide +kernel
theorem d_Machine_combine_65 : decode b_Machine_combine 65 = .ok (.ifCond .ne 7, 3) := by decide +kernel
theorem d_Machine_combine_68 : decode b_Machine_combine 68 = .ok (.iconst 0, 1) := by decide +kernel
theorem d_Machine_combine_69 : decode b_Machine_combine 69 = .ok (.goto 6, 3) := by decide +kernel
theorem d_Machine_combine_72 : decode b_Machine_combine 72 = .ok (.iload_n 1, 1) := by decide +kernel
theorem d_Machine_combine_73 : decode b_Machine_combine 73 = .ok (.iload_n 2, 1) := by decide +kernel
theorem d_Machine_combine_74 : decode b_Machine_combine 74 = .ok (.irem, 1) := by decide +kernel
theorem d_Machine_combine_75 : decode b_Machine_combine 75 = .ok (.ireturn, 1) := by decide +kernel
theorem d_Machine_combine_76 : decode b_Machine_combine 76 = .ok (.iload_n 1, 1) := by decide +kernel
theorem d_Machine_combine_77 : decode b_Machine_combine 77 = .ok (.iload_n 2, 1) := by decide +kernel
theorem d_Machine_combine_78 : decode b_Machine_combine 78 = .ok (.if_icmp .ge 7, 3) := by decide +kernel
theorem d_Machine_combine_81 : decode b_Machine_combine 81 = .ok (.iconst 1, 1) := by decide +kernel
theorem d_Machine_combine_82 : decode b_Machine_combine 82 = .ok (.goto 4, 3) := by decide +kernel
theorem d_Machine_combine_85 : decode b_Machine_combine 85 = .ok (.iconst 0, 1) := by decide +kernel
theorem d_Machine_combine_86 : decode b_Machine_combine 86 = .ok (.ireturn, 1) := by decide +kernel
theorem d_Machine_combine_87 : decode b_Machine_combine 87 = .ok (.iload_n 1, 1) := by decide +kernel
theorem d_Machine_combine_88 : decode b_Machine_combine 88 = .ok (.iload_n 2, 1) := by decide +kernel
theorem d_Machine_combine_89 : decode b_Machine_combine 89 = .ok (.if_icmp .ne 7, 3) := by decide +kernel
theorem d_Machine_combine_92 : decode b_Machine_combine 92 = .ok (.iconst 1, 1) := by decide +kernel
theorem d_Machine_combine_93 : decode b_Machine_combine 93 = .ok (.goto 4, 3) := by decide +kernel
theorem d_Machine_combine_96 : decode b_Machine_combine 96 = .ok (.iconst 0, 1) := by decide +kernel
theorem d_Machine_combine_97 : decode b_Machine_combine 97 = .ok (.ireturn, 1) := by decide +kernel
theorem d_Machine_emit_0 : decode b_Machine_emit 0 = .ok (.aload_n 0, 1) := by decide +kernel
theorem d_Machine_emit_1 : decode b_Machine_emit 1 = .ok (.getfield 54, 3) := by decide +kernel
theorem d_Machine_emit_4 : decode b_Machine_emit 4 = .ok (.bipush 20, 2) := by decide +kernel
theorem d_Machine_emit_6 : decode b_Machine_emit 6 = .ok (.if_icmp .lt 5, 3) := by decide +kernel
theorem d_Machine_emit_9 : decode b_Machine_emit 9 = .ok (.iconst 2, 1) := by decide +kernel
theorem d_Machine_emit_10 : decode b_Machine_emit 10 = .ok (.ireturn, 1) := by decide +kernel
theorem d_Machine_emit_11 : decode b_Machine_emit 11 = .ok (.aload_n 0, 1) := by decide +kernel
theorem d_Machine_emit_12 : decode b_Machine_emit 12 = .ok (.getfield 15, 3) := by decide +kernel
theorem d_Machine_emit_15 : decode b_Machine_emit 15 = .ok (.aload_n 0, 1) := by decide +kernel
theorem d_Machine_emit_16 : decode b_Machine_emit 16 = .ok (.getfield 54, 3) := by decide +kernel
theorem d_Machine_emit_19 : decode b_Machine_emit 19 = .ok (.aload_n 0, 1) := by decide +kernel
theorem d_Machine_emit_20 : decode b_Machine_emit 20 = .ok (.invokevirtual 73, 3) := by decide +kernel
theorem d_Machine_emit_23 : decode b_Machine_emit 23 = .ok (.invokestatic 57, 3) := by decide +kernel
theorem d_Machine_emit_26 : decode b_Machine_emit 26 = .ok (.aload_n 0, 1) := by decide +kernel
theorem d_Machine_emit_27 : decode b_Machine_emit 27 = .ok (.getfield 9, 3) := by decide +kernel
theorem d_Machine_emit_30 : decode b_Machine_emit 30 = .ok (.aload_n 0, 1) := by decide +kernel
theorem d_Machine_emit_31 : decode b_Machine_emit 31 = .ok (.getfield 54, 3) := by decide +kernel
theorem d_Machine_emit_34 : decode b_Machine_emit 34 = .ok (.aload_n 0, 1) := by decide +kernel
theorem d_Machine_emit_35 : decode b_Machine_emit 35 = .ok (.invokevirtual 73, 3) := by decide +kernel
theorem d_Machine_emit_38 : decode b_Machine_emit 38 = .ok (.invokestatic 57, 3) := by decide +kernel
theorem d_Machine_emit_41 : decode b_Machine_emit 41 = .ok (.aload_n 0, 1) := by decide +kernel
theorem d_Machine_emit_42 : decode b_Machine_emit 42 = .ok (.dup, 1) := by decide +kernel
theorem d_Machine_emit_43 : decode b_Machine_emit 43 = .ok (.getfield 54, 3) := by decide +kernel
theorem d_Machine_emit_46 : decode b_Machine_emit 46 = .ok (.iconst 1, 1) := by decide +kernel
theorem d_Machine_emit_47 : decode b_Machine_emit 47 = .ok (.iadd, 1) := by decide +kernel
theorem d_Machine_emit_48 : decode b_Machine_emit 48 = .ok (.putfield 54, 3) := by decide +kernel
theorem d_Machine_emit_51 : decode b_Machine_emit 51 = .ok (.iconst 3, 1) := by decide +kernel
theorem d_Machine_emit_52 : decode b_Machine_emit 52 = .ok (.ireturn, 1) := by decide +kernel
theorem d_Machine_push_0 : decode b_Machine_push 0 = .ok (.aload_n 0, 1) := by decide +kernel
theorem d_Machine_push_1 : decode b_Machine_push 1 = .ok (.getfield 24, 3) := by decide +kernel
theorem d_Machine_push_4 : decode b_Machine_push 4 = .ok (.aload_n 0, 1) := by decide +kernel
theorem d_Machine_push_5 : decode b_Machine_push 5 = .ok (.getfield 67, 3) := by decide +kernel
theorem d_Machine_push_8 : decode b_Machine_push 8 = .ok (.iload_n 1, 1) := by decide +kernel
theorem d_Machine_push_9 : decode b_Machine_push 9 = .ok (.invokestatic 57, 3) := by decide +kernel
theorem d_Machine_push_12 : decode b_Machine_push 12 = .ok (.aload_n 0, 1) := by decide +kernel
theorem d_Machine_push_13 : decode b_Machine_push 13 = .ok (.dup, 1) := by decide +kernel
theorem d_Machine_push_14 : decode b_Machine_push 14 = .ok (.getfield 67, 3) := by decide +kernel
theorem d_Machine_push_17 : decode b_Machine_push 17 = .ok (.iconst 1, 1) := by decide +kernel
theorem d_Machine_push_18 : decode b_Machine_push 18 = .ok (.iadd, 1) := by decide +kernel
theorem d_Machine_push_19 : decode b_Machine_push 19 = .ok (.putfield 67, 3) := by decide +kernel
theorem d_Machine_push_22 : decode b_Machine_push 22 = .ok (.return_, 1) := by decide +kernel
theorem d_Machine_pop_0 : decode b_Machine_pop 0 = .ok (.aload_n 0, 1) := by decide +kernel
theorem d_Machine_pop_1 : decode b_Machine_pop 1 = .ok (.dup, 1) := by decide +kernel
theorem d_Machine_pop_2 : decode b_Machine_pop 2 = .ok (.getfield 67, 3) := by decide +kernel
theorem d_Machine_pop_5 : decode b_Machine_pop 5 = .ok (.iconst 1, 1) := by decide +kernel
theorem d_Machine_pop_6 : decode b_Machine_pop 6 = .ok (.isub, 1) := by decide +kernel
theorem d_Machine_pop_7 : decode b_Machine_pop 7 = .ok (.putfield 67, 3) := by decide +kernel
theorem d_Machine_pop_10 : decode b_Machine_pop 10 = .ok (.aload_n 0, 1) := by decide +kernel
theorem d_Machine_pop_11 : decode b_Machine_pop 11 = .ok (.getfield 24, 3) := by decide +kernel
theorem d_Machine_pop_14 : decode b_Machine_pop 14 = .ok (.aload_n 0, 1) := by decide +kernel
theorem d_Machine_pop_15 : decode b_Machine_pop 15 = .ok (.getfield 67, 3) := by decide +kernel
theorem d_Machine_pop_18 : decode b_Machine_pop 18 = .ok (.invokestatic 88, 3) := by decide +kernel
theorem d_Machine_pop_21 : decode b_Machine_pop 21 = .ok (.ireturn, 1) := by decide +kernel
theorem d_Op_isOf_0 : decode b_Op_isOf 0 = .ok (.iload_n 0, 1) := by decide +kernel
theorem d_Op_isOf_1 : decode b_Op_isOf 1 = .ok (.bipush 16, 2) := by decide +kernel
theorem d_Op_isOf_3 : decode b_Op_isOf 3 = .ok (.if_icmp .ne 13, 3) := by decide +kernel
theorem d_Op_isOf_6 : decode b_Op_isOf 6 = .ok (.iload_n 1, 1) := by decide +kernel
theorem d_Op_isOf_7 : decode b_Op_isOf 7 = .ok (.ifCond .ne 7, 3) := by decide +kernel
theorem d_Op_isOf_10 : decode b_Op_isOf 10 = .ok (.iconst 1, 1) := by decide +kernel
theorem d_Op_isOf_11 : decode b_Op_isOf 11 = .ok (.goto 4, 3) := by decide +kernel
theorem d_Op_isOf_14 : decode b_Op_isOf 14 = .ok (.iconst 0, 1) := by decide +kernel
theorem d_Op_isOf_15 : decode b_Op_isOf 15 = .ok (.ireturn, 1) := by decide +kernel
theorem d_Op_isOf_16 : decode b_Op_isOf 16 = .ok (.iload_n 0, 1) := by decide +kernel
theorem d_Op_isOf_17 : decode b_Op_isOf 17 = .ok (.bipush 18, 2) := by decide +kernel
theorem d_Op_isOf_19 : decode b_Op_isOf 19 = .ok (.if_icmp .ne 14, 3) := by decide +kernel
theorem d_Op_isOf_22 : decode b_Op_isOf 22 = .ok (.iload_n 1, 1) := by decide +kernel
theorem d_Op_isOf_23 : decode b_Op_isOf 23 = .ok (.iconst 3, 1) := by decide +kernel
theorem d_Op_isOf_24 : decode b_Op_isOf 24 = .ok (.if_icmp .ne 7, 3) := by decide +kernel
theorem d_Op_isOf_27 : decode b_Op_isOf 27 = .ok (.iconst 1, 1) := by decide +kernel
theorem d_Op_isOf_28 : decode b_Op_isOf 28 = .ok (.goto 4, 3) := by decide +kernel
theorem d_Op_isOf_31 : decode b_Op_isOf 31 = .ok (.iconst 0, 1) := by decide +kernel
theorem d_Op_isOf_32 : decode b_Op_isOf 32 = .ok (.ireturn, 1) := by decide +kernel
theorem d_Op_isOf_33 : decode b_Op_isOf 33 = .ok (.iload_n 0, 1) := by decide +kernel
theorem d_Op_isOf_34 : decode b_Op_isOf 34 = .ok (.ifCond .lt 13, 3) := by decide +kernel
theorem d_Op_isOf_37 : decode b_Op_isOf 37 = .ok (.iload_n 0, 1) := by decide +kernel
theorem d_Op_isOf_38 : decode b_Op_isOf 38 = .ok (.bipush 17, 2) := by decide +kernel
theorem d_Op_isOf_40 : decode b_Op_isOf 40 = .ok (.if_icmp .gt 7, 3) := by decide +kernel
theorem d_Op_isOf_43 : decode b_Op_isOf 43 = .ok (.iconst 1, 1) := by decide +kernel
theorem d_Op_isOf_44 : decode b_Op_isOf 44 = .ok (.goto 4, 3) := by decide +kernel
theorem d_Op_isOf_47 : decode b_Op_isOf 47 = .ok (.iconst 0, 1) := by decide +kernel
theorem d_Op_isOf_48 : decode b_Op_isOf 48 = .ok (.ireturn, 1) := by decide +kernel
theorem d_Op_needs_0 : decode b_Op_needs 0 = .ok (.iload_n 0, 1) := by decide +kernel
theorem d_Op_needs_1 : decode b_Op_needs 1 = .ok (.bipush 17, 2) := by decide +kernel
theorem d_Op_needs_3 : decode b_Op_needs 3 = .ok (.if_icmp .ne 11, 3) := by decide +kernel
theorem d_Op_needs_6 : decode b_Op_needs 6 = .ok (.iload_n 1, 1) := by decide +kernel
theorem d_Op_needs_7 : decode b_Op_needs 7 = .ok (.ifCond .ne 7, 3) := by decide +kernel
theorem d_Op_needs_10 : decode b_Op_needs 10 = .ok (.iconst 0, 1) := by decide +kernel
theorem d_Op_needs_11 : decode b_Op_needs 11 = .ok (.goto 10, 3) := by decide +kernel
theorem d_Op_needs_14 : decode b_Op_needs 14 = .ok (.getstatic 11, 3) := by decide +kernel
theorem d_Op_needs_17 : decode b_Op_needs 17 = .ok (.iload_n 0, 1) := by decide +kernel
theorem d_Op_needs_18 : decode b_Op_needs 18 = .ok (.invokestatic 15, 3) := by decide +kernel
theorem d_Op_needs_21 : decode b_Op_needs 21 = .ok (.ireturn, 1) := by decide +kernel
theorem d_Op_growth_0 : decode b_Op_growth 0 = .ok (.getstatic 21, 3) := by decide +kernel
theorem d_Op_growth_3 : decode b_Op_growth 3 = .ok (.iload_n 0, 1) := by decide +kernel
theorem d_Op_growth_4 : decode b_Op_growth 4 = .ok (.invokestatic 15, 3) := by decide +kernel
theorem d_Op_growth_7 : decode b_Op_growth 7 = .ok (.ireturn, 1) := by decide +kernel
theorem d_Op_jumps_0 : decode b_Op_jumps 0 = .ok (.iload_n 0, 1) := by decide +kernel
theorem d_Op_jumps_1 : decode b_Op_jumps 1 = .ok (.bipush 14, 2) := by decide +kernel
theorem d_Op_jumps_3 : decode b_Op_jumps 3 = .ok (.if_icmp .eq 9, 3) := by decide +kernel
theorem d_Op_jumps_6 : decode b_Op_jumps 6 = .ok (.iload_n 0, 1) := by decide +kernel
theorem d_Op_jumps_7 : decode b_Op_jumps 7 = .ok (.bipush 15, 2) := by decide +kernel
theorem d_Op_jumps_9 : decode b_Op_jumps 9 = .ok (.if_icmp .ne 7, 3) := by decide +kernel
theorem d_Op_jumps_12 : decode b_Op_jumps 12 = .ok (.iconst 1, 1) := by decide +kernel
theorem d_Op_jumps_13 : decode b_Op_jumps 13 = .ok (.goto 4, 3) := by decide +kernel
theorem d_Op_jumps_16 : decode b_Op_jumps 16 = .ok (.iconst 0, 1) := by decide +kernel
theorem d_Op_jumps_17 : decode b_Op_jumps 17 = .ok (.ireturn, 1) := by decide +kernel
theorem d_Op_hasNext_0 : decode b_Op_hasNext 0 = .ok (.iload_n 0, 1) := by decide +kernel
theorem d_Op_hasNext_1 : decode b_Op_hasNext 1 = .ok (.bipush 14, 2) := by decide +kernel
theorem d_Op_hasNext_3 : decode b_Op_hasNext 3 = .ok (.if_icmp .eq 19, 3) := by decide +kernel
theorem d_Op_hasNext_6 : decode b_Op_hasNext 6 = .ok (.iload_n 0, 1) := by decide +kernel
theorem d_Op_hasNext_7 : decode b_Op_hasNext 7 = .ok (.bipush 17, 2) := by decide +kernel
theorem d_Op_hasNext_9 : decode b_Op_hasNext 9 = .ok (.if_icmp .eq 13, 3) := by decide +kernel
theorem d_Op_hasNext_12 : decode b_Op_hasNext 12 = .ok (.iload_n 0, 1) := by decide +kernel
theorem d_Op_hasNext_13 : decode b_Op_hasNext 13 = .ok (.bipush 18, 2) := by decide +kernel
theorem d_Op_hasNext_15 : decode b_Op_hasNext 15 = .ok (.if_icmp .eq 7, 3) := by decide +kernel
theorem d_Op_hasNext_18 : decode b_Op_hasNext 18 = .ok (.iconst 1, 1) := by decide +kernel
theorem d_Op_hasNext_19 : decode b_Op_hasNext 19 = .ok (.goto 4, 3) := by decide +kernel
theorem d_Op_hasNext_22 : decode b_Op_hasNext 22 = .ok (.iconst 0, 1) := by decide +kernel
theorem d_Op_hasNext_23 : decode b_Op_hasNext 23 = .ok (.ireturn, 1) := by decide +kernel
theorem d_Program_init_0 : decode b_Program_init 0 = .ok (.aload_n 0, 1) := by decide +kernel
theorem d_Program_init_1 : decode b_Program_init 1 = .ok (.invokespecial 3, 3) := by decide +kernel
theorem d_Program_init_4 : decode b_Program_init 4 = .ok (.aload_n 0, 1) := by decide +kernel
theorem d_Program_init_5 : decode b_Program_init 5 = .ok (.bipush 64, 2) := by decide +kernel
theorem d_Program_init_7 : decode b_Program_init 7 = .ok (.newarray .int, 2) := by decide +kernel
theorem d_Program_init_9 : decode b_Program_init 9 = .ok (.putfield 9, 3) := by decide +kernel
theorem d_Program_init_12 : decode b_Program_init 12 = .ok (.aload_n 0, 1) := by decide +kernel
theorem d_Program_init_13 : decode b_Program_init 13 = .ok (.bipush 64, 2) := by decide +kernel
theorem d_Program_init_15 : decode b_Program_init 15 = .ok (.newarray .int, 2) := by decide +kernel
theorem d_Program_init_17 : decode b_Program_init 17 = .ok (.putfield 15, 3) := by decide +kernel
theorem d_Program_init_20 : decode b_Program_init 20 = .ok (.aload_n 0, 1) := by decide +kernel
theorem d_Program_init_21 : decode b_Program_init 21 = .ok (.iload_n 1, 1) := by decide +kernel
theorem d_Program_init_22 : decode b_Program_init 22 = .ok (.putfield 18, 3) := by decide +kernel
theorem d_Program_init_25 : decode b_Program_init 25 = .ok (.aload_n 0, 1) := by decide +kernel
theorem d_Program_init_26 : decode b_Program_init 26 = .ok (.iload_n 1, 1) := by decide +kernel
theorem d_Program_init_27 : decode b_Program_init 27 = .ok (.iconst 1, 1) := by decide +kernel
theorem d_Program_init_28 : decode b_Program_init 28 = .ok (.if_icmp .eq 8, 3) := by decide +kernel
theorem d_Program_init_31 : decode b_Program_init 31 = .ok (.iload_n 1, 1) := by decide +kernel
theorem d_Program_init_32 : decode b_Program_init 32 = .ok (.iconst 2, 1) := by decide +kernel
theorem d_Program_init_33 : decode b_Program_init 33 = .ok (.if_icmp .ne 7, 3) := by decide +kernel
theorem d_Program_init_36 : decode b_Program_init 36 = .ok (.iconst 3, 1) := by decide +kernel
theorem d_Program_init_37 : decode b_Program_init 37 = .ok (.goto 4, 3) := by decide +kernel
theorem d_Program_init_40 : decode b_Program_init 40 = .ok (.iconst 2, 1) := by decide +kernel
theorem d_Program_init_41 : decode b_Program_init 41 = .ok (.putfield 24, 3) := by decide +kernel
theorem d_Program_init_44 : decode b_Program_init 44 = .ok (.return_, 1) := by decide +kernel
theorem d_Program_append_0 : decode b_Program_append 0 = .ok (.aload_n 0, 1) := by decide +kernel
theorem d_Program_append_1 : decode b_Program_append 1 = .ok (.getfield 27, 3) := by decide +kernel
theorem d_Program_append_4 : decode b_Program_append 4 = .ok (.bipush 64, 2) := by decide +kernel
theorem d_Program_append_6 : decode b_Program_append 6 = .ok (.if_icmp .lt 5, 3) := by decide +kernel
theorem d_Program_append_9 : decode b_Program_append 9 = .ok (.iconst 0, 1) := by decide +kernel
theorem d_Program_append_10 : decode b_Program_append 10 = .ok (.ireturn, 1) := by decide +kernel
theorem d_Program_append_11 : decode b_Program_append 11 = .ok (.aload_n 0, 1) := by decide +kernel
theorem d_Program_append_12 : decode b_Program_append 12 = .ok (.getfield 9, 3) := by decide +kernel
theorem d_Program_append_15 : decode b_Program_append 15 = .ok (.aload_n 0, 1) := by decide +kernel
theorem d_Program_append_16 : decode b_Program_append 16 = .ok (.getfield 27, 3) := by decide +kernel
theorem d_Program_append_19 : decode b_Program_append 19 = .ok (.iload_n 1, 1) := by decide +kernel
theorem d_Program_append_20 : decode b_Program_append 20 = .ok (.invokestatic 30, 3) := by decide +kernel
theorem d_Program_append_23 : decode b_Program_append 23 = .ok (.aload_n 0, 1) := by decide +kernel
theorem d_Program_append_24 : decode b_Program_append 24 = .ok (.getfield 15, 3) := by decide +kernel
theorem d_Program_append_27 : decode b_Program_append 27 = .ok (.aload_n 0, 1) := by decide +kernel
theorem d_Program_append_28 : decode b_Program_append 28 = .ok (.getfield 27, 3) := by decide +kernel
theorem d_Program_append_31 : decode b_Program_append 31 = .ok (.iload_n 2, 1) := by decide +kernel
theorem d_Program_append_32 : decode b_Program_append 32 = .ok (.invokestatic 30, 3) := by decide +kernel
theorem d_Program_append_35 : decode b_Program_append 35 = .ok (.aload_n 0, 1) := by decide +kernel
theorem d_Program_append_36 : decode b_Program_append 36 = .ok (.dup, 1) := by decide +kernel
theorem d_Program_append_37 : decode b_Program_append 37 = .ok (.getfield 27, 3) := by decide +kernel
theorem d_Program_append_40 : decode b_Program_append 40 = .ok (.iconst 1, 1) := by decide +kernel
theorem d_Program_append_41 : decode b_Program_append 41 = .ok (.iadd, 1) := by decide +kernel
theorem d_Program_append_42 : decode b_Program_append 42 = .ok (.putfield 27, 3) := by decide +kernel
theorem d_Program_append_45 : decode b_Program_append 45 = .ok (.iconst 1, 1) := by decide +kernel
theorem d_Program_append_46 : decode b_Program_append 46 = .ok (.ireturn, 1) := by decide +kernel
theorem d_Program_keepFirst_0 : decode b_Program_keepFirst 0 = .ok (.aload_n 0, 1) := by decide +kernel
theorem d_Program_keepFirst_1 : decode b_Program_keepFirst 1 = .ok (.iload_n 1, 1) := by decide +kernel
theorem d_Program_keepFirst_2 : decode b_Program_keepFirst 2 = .ok (.putfield 27, 3) := by decide +kernel
theorem d_Program_keepFirst_5 : decode b_Program_keepFirst 5 = .ok (.return_, 1) := by decide +kernel
theorem d_Program_has_0 : decode b_Program_has 0 = .ok (.iload_n 1, 1) := by decide +kernel
theorem d_Program_has_1 : decode b_Program_has 1 = .ok (.ifCond .lt 15, 3) := by decide +kernel
theorem d_Program_has_4 : decode b_Program_has 4 = .ok (.iload_n 1, 1) := by decide +kernel
theorem d_Program_has_5 : decode b_Program_has 5 = .ok (.aload_n 0, 1) := by decide +kernel
theorem d_Program_has_6 : decode b_Program_has 6 = .ok (.getfield 27, 3) := by decide +kernel
theorem d_Program_has_9 : decode b_Program_has 9 = .ok (.if_icmp .ge 7, 3) := by decide +kernel
theorem d_Program_has_12 : decode b_Program_has 12 = .ok (.iconst 1, 1) := by decide +kernel
theorem d_Program_has_13 : decode b_Program_has 13 = .ok (.goto 4, 3) := by decide +kernel
theorem d_Program_has_16 : decode b_Program_has 16 = .ok (.iconst 0, 1) := by decide +kernel
theorem d_Program_has_17 : decode b_Program_has 17 = .ok (.ireturn, 1) := by decide +kernel
theorem d_Program_opAt_0 : decode b_Program_opAt 0 = .ok (.aload_n 0, 1) := by decide +kernel
theorem d_Program_opAt_1 : decode b_Program_opAt 1 = .ok (.getfield 9, 3) := by decide +kernel
theorem d_Program_opAt_4 : decode b_Program_opAt 4 = .ok (.iload_n 1, 1) := by decide +kernel
theorem d_Program_opAt_5 : decode b_Program_opAt 5 = .ok (.invokestatic 34, 3) := by decide +kernel
theorem d_Program_opAt_8 : decode b_Program_opAt 8 = .ok (.ireturn, 1) := by decide +kernel
theorem d_Program_nAt_0 : decode b_Program_nAt 0 = .ok (.aload_n 0, 1) := by decide +kernel
theorem d_Program_nAt_1 : decode b_Program_nAt 1 = .ok (.getfield 15, 3) := by decide +kernel
theorem d_Program_nAt_4 : decode b_Program_nAt 4 = .ok (.iload_n 1, 1) := by decide +kernel
theorem d_Program_nAt_5 : decode b_Program_nAt 5 = .ok (.invokestatic 34, 3) := by decide +kernel
theorem d_Program_nAt_8 : decode b_Program_nAt 8 = .ok (.ireturn, 1) := by decide +kernel
theorem d_Program_isWellFormed_0 : decode b_Program_isWellFormed 0 = .ok (.aload_n 0, 1) := by decide +kernel
theorem d_Program_isWellFormed_1 : decode b_Program_isWellFormed 1 = .ok (.getfield 9, 3) := by decide +kernel
theorem d_Program_isWellFormed_4 : decode b_Program_isWellFormed 4 = .ok (.iload_n 1, 1) := by decide +kernel
theorem d_Program_isWellFormed_5 : decode b_Program_isWellFormed 5 = .ok (.invokestatic 34, 3) := by decide +kernel
theorem d_Program_isWellFormed_8 : decode b_Program_isWellFormed 8 = .ok (.istore_n 2, 1) := by decide +kernel
theorem d_Program_isWellFormed_9 : decode b_Program_isWellFormed 9 = .ok (.aload_n 0, 1) := by decide +kernel
theorem d_Program_isWellFormed_10 : decode b_Program_isWellFormed 10 = .ok (.getfield 15, 3) := by decide +kernel
theorem d_Program_isWellFormed_13 : decode b_Program_isWellFormed 13 = .ok (.iload_n 1, 1) := by decide +kernel
theorem d_Program_isWellFormed_14 : decode b_Program_isWellFormed 14 = .ok (.invokestatic 34, 3) := by decide +kernel
theorem d_Program_isWellFormed_17 : decode b_Program_isWellFormed 17 = .ok (.istore_n 3, 1) := by decide +kernel
theorem d_Program_isWellFormed_18 : decode b_Program_isWellFormed 18 = .ok (.aload_n 0, 1) := by decide +kernel
theorem d_Program_isWellFormed_19 : decode b_Program_isWellFormed 19 = .ok (.iload_n 2, 1) := by decide +kernel
theorem d_Program_isWellFormed_20 : decode b_Program_isWellFormed 20 = .ok (.invokevirtual 38, 3) := by decide +kernel
theorem d_Program_isWellFormed_23 : decode b_Program_isWellFormed 23 = .ok (.istore 4, 2) := by decide +kernel
theorem d_Program_isWellFormed_25 : decode b_Program_isWellFormed 25 = .ok (.iload_n 2, 1) := by decide +kernel
theorem d_Program_isWellFormed_26 : decode b_Program_isWellFormed 26 = .ok (.aload_n 0, 1) := by decide +kernel
theorem d_Program_isWellFormed_27 : decode b_Program_isWellFormed 27 = .ok (.getfield 18, 3) := by decide +kernel
theorem d_Program_isWellFormed_30 : decode b_Program_isWellFormed 30 = .ok (.invokestatic 42, 3) := by decide +kernel
theorem d_Program_isWellFormed_33 : decode b_Program_isWellFormed 33 = .ok (.ifCond .eq 23, 3) := by decide +kernel
theorem d_Program_isWellFormed_36 : decode b_Program_isWellFormed 36 = .ok (.iload 4, 2) := by decide +kernel
theorem d_Program_isWellFormed_38 : decode b_Program_isWellFormed 38 = .ok (.iconst (-1), 1) := by decide +kernel
theorem d_Program_isWellFormed_39 : decode b_Program_isWellFormed 39 = .ok (.if_icmp .eq 13, 3) := by decide +kernel
theorem d_Program_isWellFormed_42 : decode b_Program_isWellFormed 42 = .ok (.iload_n 3, 1) := by decide +kernel
theorem d_Program_isWellFormed_43 : decode b_Program_isWellFormed 43 = .ok (.ifCond .lt 13, 3) := by decide +kernel
theorem d_Program_isWellFormed_46 : decode b_Program_isWellFormed 46 = .ok (.iload_n 3, 1) := by decide +kernel
theorem d_Program_isWellFormed_47 : decode b_Program_isWellFormed 47 = .ok (.iload 4, 2) := by decide +kernel
theorem d_Program_isWellFormed_49 : decode b_Program_isWellFormed 49 = .ok (.if_icmp .ge 7, 3) := by decide +kernel
theorem d_Program_isWellFormed_52 : decode b_Program_isWellFormed 52 = .ok (.iconst 1, 1) := by decide +kernel
theorem d_Program_isWellFormed_53 : decode b_Program_isWellFormed 53 = .ok (.goto 4, 3) := by decide +kernel
theorem d_Program_isWellFormed_56 : decode b_Program_isWellFormed 56 = .ok (.iconst 0, 1) := by decide +kernel
theorem d_Program_isWellFormed_57 : decode b_Program_isWellFormed 57 = .ok (.ireturn, 1) := by decide +kernel
theorem d_Program_limitOfN_0 : decode b_Program_limitOfN 0 = .ok (.iload_n 1, 1) := by decide +kernel
theorem d_Program_limitOfN_1 : decode b_Program_limitOfN 1 = .ok (.tableswitch 87 1 15 #[75, 80, 80, 87, 87, 87, 87, 87, 87, 87, 87, 87, 87, 82, 82], 75) := by decide +kernel
theorem d_Program_limitOfN_76 : decode b_Program_limitOfN 76 = .ok (.aload_n 0, 1) := by decide +kernel
theorem d_Program_limitOfN_77 : decode b_Program_limitOfN 77 = .ok (.getfield 24, 3) := by decide +kernel
theorem d_Program_limitOfN_80 : decode b_Program_limitOfN 80 = .ok (.ireturn, 1) := by decide +kernel
theorem d_Program_limitOfN_81 : decode b_Program_limitOfN 81 = .ok (.iconst 4, 1) := by decide +kernel
theorem d_Program_limitOfN_82 : decode b_Program_limitOfN 82 = .ok (.ireturn, 1) := by decide +kernel
theorem d_Program_limitOfN_83 : decode b_Program_limitOfN 83 = .ok (.aload_n 0, 1) := by decide +kernel
theorem d_Program_limitOfN_84 : decode b_Program_limitOfN 84 = .ok (.getfield 27, 3) := by decide +kernel
theorem d_Program_limitOfN_87 : decode b_Program_limitOfN 87 = .ok (.ireturn, 1) := by decide +kernel
theorem d_Program_limitOfN_88 : decode b_Program_limitOfN 88 = .ok (.iconst (-1), 1) := by decide +kernel
theorem d_Program_limitOfN_89 : decode b_Program_limitOfN 89 = .ok (.ireturn, 1) := by decide +kernel
theorem d_Program_canBeDone_0 : decode b_Program_canBeDone 0 = .ok (.aload_n 0, 1) := by decide +kernel
theorem d_Program_canBeDone_1 : decode b_Program_canBeDone 1 = .ok (.iload_n 1, 1) := by decide +kernel
theorem d_Program_canBeDone_2 : decode b_Program_canBeDone 2 = .ok (.invokevirtual 48, 3) := by decide +kernel
theorem d_Program_canBeDone_5 : decode b_Program_canBeDone 5 = .ok (.istore_n 3, 1) := by decide +kernel
theorem d_Program_canBeDone_6 : decode b_Program_canBeDone 6 = .ok (.aload_n 0, 1) := by decide +kernel
theorem d_Program_canBeDone_7 : decode b_Program_canBeDone 7 = .ok (.iload_n 1, 1) := by decide +kernel
theorem d_Program_canBeDone_8 : decode b_Program_canBeDone 8 = .ok (.invokevirtual 51, 3) := by decide +kernel
theorem d_Program_canBeDone_11 : decode b_Program_canBeDone 11 = .ok (.ifCond .eq 20, 3) := by decide +kernel
theorem d_Program_canBeDone_14 : decode b_Program_canBeDone 14 = .ok (.iload_n 3, 1) := by decide +kernel
theorem d_Program_canBeDone_15 : decode b_Program_canBeDone 15 = .ok (.invokestatic 55, 3) := by decide +kernel
theorem d_Program_canBeDone_18 : decode b_Program_canBeDone 18 = .ok (.ifCond .eq 15, 3) := by decide +kernel
theorem d_Program_canBeDone_21 : decode b_Program_canBeDone 21 = .ok (.aload_n 0, 1) := by decide +kernel
theorem d_Program_canBeDone_22 : decode b_Program_canBeDone 22 = .ok (.iload_n 1, 1) := by decide +kernel
theorem d_Program_canBeDone_23 : decode b_Program_canBeDone 23 = .ok (.iconst 1, 1) := by decide +kernel
theorem d_Program_canBeDone_24 : decode b_Program_canBeDone 24 = .ok (.iadd, 1) := by decide +kernel
theorem d_Program_canBeDone_25 : decode b_Program_canBeDone 25 = .ok (.invokevirtual 58, 3) := by decide +kernel
theorem d_Program_canBeDone_28 : decode b_Program_canBeDone 28 = .ok (.ifCond .ne 5, 3) := by decide +kernel
theorem d_Program_canBeDone_31 : decode b_Program_canBeDone 31 = .ok (.iconst 0, 1) := by decide +kernel
theorem d_Program_canBeDone_32 : decode b_Program_canBeDone 32 = .ok (.ireturn, 1) := by decide +kernel
theorem d_Program_canBeDone_33 : decode b_Program_canBeDone 33 = .ok (.iload_n 2, 1) := by decide +kernel
theorem d_Program_canBeDone_34 : decode b_Program_canBeDone 34 = .ok (.iload_n 3, 1) := by decide +kernel
theorem d_Program_canBeDone_35 : decode b_Program_canBeDone 35 = .ok (.aload_n 0, 1) := by decide +kernel
theorem d_Program_canBeDone_36 : decode b_Program_canBeDone 36 = .ok (.getfield 18, 3) := by decide +kernel
theorem d_Program_canBeDone_39 : decode b_Program_canBeDone 39 = .ok (.invokestatic 61, 3) := by decide +kernel
theorem d_Program_canBeDone_42 : decode b_Program_canBeDone 42 = .ok (.if_icmp .lt 18, 3) := by decide +kernel
theorem d_Program_canBeDone_45 : decode b_Program_canBeDone 45 = .ok (.iload_n 2, 1) := by decide +kernel
theorem d_Program_canBeDone_46 : decode b_Program_canBeDone 46 = .ok (.iload_n 3, 1) := by decide +kernel
theorem d_Program_canBeDone_47 : decode b_Program_canBeDone 47 = .ok (.invokestatic 65, 3) := by decide +kernel
theorem d_Program_canBeDone_50 : decode b_Program_canBeDone 50 = .ok (.iadd, 1) := by decide +kernel
theorem d_Program_canBeDone_51 : decode b_Program_canBeDone 51 = .ok (.bipush 8, 2) := by decide +kernel
theorem d_Program_canBeDone_53 : decode b_Program_canBeDone 53 = .ok (.if_icmp .gt 7, 3) := by decide +kernel
theorem d_Program_canBeDone_56 : decode b_Program_canBeDone 56 = .ok (.iconst 1, 1) := by decide +kernel
theorem d_Program_canBeDone_57 : decode b_Program_canBeDone 57 = .ok (.goto 4, 3) := by decide +kernel
theorem d_Program_canBeDone_60 : decode b_Program_canBeDone 60 = .ok (.iconst 0, 1) := by decide +kernel
theorem d_Program_canBeDone_61 : decode b_Program_canBeDone 61 = .ok (.ireturn, 1) := by decide +kernel
theorem d_Ways_init_0 : decode b_Ways_init 0 = .ok (.aload_n 0, 1) := by decide +kernel
theorem d_Ways_init_1 : decode b_Ways_init 1 = .ok (.invokespecial 3, 3) := by decide +kernel
theorem d_Ways_init_4 : decode b_Ways_init 4 = .ok (.aload_n 0, 1) := by decide +kernel
theorem d_Ways_init_5 : decode b_Ways_init 5 = .ok (.bipush 64, 2) := by decide +kernel
theorem d_Ways_init_7 : decode b_Ways_init 7 = .ok (.newarray .int, 2) := by decide +kernel
theorem d_Ways_init_9 : decode b_Ways_init 9 = .ok (.putfield 9, 3) := by decide +kernel
theorem d_Ways_init_12 : decode b_Ways_init 12 = .ok (.aload_n 0, 1) := by decide +kernel
theorem d_Ways_init_13 : decode b_Ways_init 13 = .ok (.sipush 576, 3) := by decide +kernel
theorem d_Ways_init_16 : decode b_Ways_init 16 = .ok (.newarray .int, 2) := by decide +kernel
theorem d_Ways_init_18 : decode b_Ways_init 18 = .ok (.putfield 15, 3) := by decide +kernel
theorem d_Ways_init_21 : decode b_Ways_init 21 = .ok (.return_, 1) := by decide +kernel
theorem d_Ways_follow_0 : decode b_Ways_follow 0 = .ok (.aload_n 0, 1) := by decide +kernel
theorem d_Ways_follow_1 : decode b_Ways_follow 1 = .ok (.getfield 9, 3) := by decide +kernel
theorem d_Ways_follow_4 : decode b_Ways_follow 4 = .ok (.iconst 0, 1) := by decide +kernel
theorem d_Ways_follow_5 : decode b_Ways_follow 5 = .ok (.invokestatic 18, 3) := by decide +kernel
theorem d_Ways_follow_8 : decode b_Ways_follow 8 = .ok (.aload_n 0, 1) := by decide +kernel
theorem d_Ways_follow_9 : decode b_Ways_follow 9 = .ok (.iconst 0, 1) := by decide +kernel
theorem d_Ways_follow_10 : decode b_Ways_follow 10 = .ok (.putfield 24, 3) := by decide +kernel
theorem d_Ways_follow_13 : decode b_Ways_follow 13 = .ok (.aload_n 0, 1) := by decide +kernel
theorem d_Ways_follow_14 : decode b_Ways_follow 14 = .ok (.aload_n 1, 1) := by decide +kernel
theorem d_Ways_follow_15 : decode b_Ways_follow 15 = .ok (.iconst 0, 1) := by decide +kernel
theorem d_Ways_follow_16 : decode b_Ways_follow 16 = .ok (.iconst 0, 1) := by decide +kernel
theorem d_Ways_follow_17 : decode b_Ways_follow 17 = .ok (.invokevirtual 28, 3) := by decide +kernel
theorem d_Ways_follow_20 : decode b_Ways_follow 20 = .ok (.iconst 0, 1) := by decide +kernel
theorem d_Ways_follow_21 : decode b_Ways_follow 21 = .ok (.istore_n 2, 1) := by decide +kernel
theorem d_Ways_follow_22 : decode b_Ways_follow 22 = .ok (.iload_n 2, 1) := by decide +kernel
theorem d_Ways_follow_23 : decode b_Ways_follow 23 = .ok (.aload_n 0, 1) := by decide +kernel
theorem d_Ways_follow_24 : decode b_Ways_follow 24 = .ok (.getfield 15, 3) := by decide +kernel
theorem d_Ways_follow_27 : decode b_Ways_follow 27 = .ok (.arraylength, 1) := by decide +kernel
theorem d_Ways_follow_28 : decode b_Ways_follow 28 = .ok (.if_icmp .ge 39, 3) := by decide +kernel
theorem d_Ways_follow_31 : decode b_Ways_follow 31 = .ok (.iload_n 2, 1) := by decide +kernel
theorem d_Ways_follow_32 : decode b_Ways_follow 32 = .ok (.aload_n 0, 1) := by decide +kernel
theorem d_Ways_follow_33 : decode b_Ways_follow 33 = .ok (.getfield 24, 3) := by decide +kernel
theorem d_Ways_follow_36 : decode b_Ways_follow 36 = .ok (.if_icmp .ge 31, 3) := by decide +kernel
theorem d_Ways_follow_39 : decode b_Ways_follow 39 = .ok (.aload_n 0, 1) := by decide +kernel
theorem d_Ways_follow_40 : decode b_Ways_follow 40 = .ok (.getfield 15, 3) := by decide +kernel
theorem d_Ways_follow_43 : decode b_Ways_follow 43 = .ok (.iload_n 2, 1) := by decide +kernel
theorem d_Ways_follow_44 : decode b_Ways_follow 44 = .ok (.invokestatic 32, 3) := by decide +kernel
theorem d_Ways_follow_47 : decode b_Ways_follow 47 = .ok (.istore_n 3, 1) := by decide +kernel
theorem d_Ways_follow_48 : decode b_Ways_follow 48 = .ok (.aload_n 0, 1) := by decide +kernel
theorem d_Ways_follow_49 : decode b_Ways_follow 49 = .ok (.aload_n 1, 1) := by decide +kernel
theorem d_Ways_follow_50 : decode b_Ways_follow 50 = .ok (.iload_n 3, 1) := by decide +kernel
theorem d_Ways_follow_51 : decode b_Ways_follow 51 = .ok (.bipush 9, 2) := by decide +kernel
theorem d_Ways_follow_53 : decode b_Ways_follow 53 = .ok (.idiv, 1) := by decide +kernel
theorem d_Ways_follow_54 : decode b_Ways_follow 54 = .ok (.iload_n 3, 1) := by decide +kernel
theorem d_Ways_follow_55 : decode b_Ways_follow 55 = .ok (.bipush 9, 2) := by decide +kernel
theorem d_Ways_follow_57 : decode b_Ways_follow 57 = .ok (.irem, 1) := by decide +kernel
theorem d_Ways_follow_58 : decode b_Ways_follow 58 = .ok (.invokevirtual 36, 3) := by decide +kernel
theorem d_Ways_follow_61 : decode b_Ways_follow 61 = .ok (.iinc 2 1, 3) := by decide +kernel
theorem d_Ways_follow_64 : decode b_Ways_follow 64 = .ok (.goto (-42), 3) := by decide +kernel
theorem d_Ways_follow_67 : decode b_Ways_follow 67 = .ok (.return_, 1) := by decide +kernel
theorem d_Ways_goOn_0 : decode b_Ways_goOn 0 = .ok (.aload_n 1, 1) := by decide +kernel
theorem d_Ways_goOn_1 : decode b_Ways_goOn 1 = .ok (.iload_n 2, 1) := by decide +kernel
theorem d_Ways_goOn_2 : decode b_Ways_goOn 2 = .ok (.iload_n 3, 1) := by decide +kernel
theorem d_Ways_goOn_3 : decode b_Ways_goOn 3 = .ok (.invokevirtual 39, 3) := by decide +kernel
theorem d_Ways_goOn_6 : decode b_Ways_goOn 6 = .ok (.ifCond .ne 4, 3) := by decide +kernel
theorem d_Ways_goOn_9 : decode b_Ways_goOn 9 = .ok (.return_, 1) := by decide +kernel
theorem d_Ways_goOn_10 : decode b_Ways_goOn 10 = .ok (.aload_n 1, 1) := by decide +kernel
theorem d_Ways_goOn_11 : decode b_Ways_goOn 11 = .ok (.iload_n 2, 1) := by decide +kernel
theorem d_Ways_goOn_12 : decode b_Ways_goOn 12 = .ok (.invokevirtual 45, 3) := by decide +kernel
theorem d_Ways_goOn_15 : decode b_Ways_goOn 15 = .ok (.istore 4, 2) := by decide +kernel
theorem d_Ways_goOn_17 : decode b_Ways_goOn 17 = .ok (.iload_n 3, 1) := by decide +kernel
theorem d_Ways_goOn_18 : decode b_Ways_goOn 18 = .ok (.iload 4, 2) := by decide +kernel
theorem d_Ways_goOn_20 : decode b_Ways_goOn 20 = .ok (.invokestatic 49, 3) := by decide +kernel
theorem d_Ways_goOn_23 : decode b_Ways_goOn 23 = .ok (.iadd, 1) := by decide +kernel
theorem d_Ways_goOn_24 : decode b_Ways_goOn 24 = .ok (.istore 5, 2) := by decide +kernel
theorem d_Ways_goOn_26 : decode b_Ways_goOn 26 = .ok (.iload 4, 2) := by decide +kernel
theorem d_Ways_goOn_28 : decode b_Ways_goOn 28 = .ok (.invokestatic 54, 3) := by decide +kernel
theorem d_Ways_goOn_31 : decode b_Ways_goOn 31 = .ok (.ifCond .eq 13, 3) := by decide +kernel
theorem d_Ways_goOn_34 : decode b_Ways_goOn 34 = .ok (.aload_n 0, 1) := by decide +kernel
theorem d_Ways_goOn_35 : decode b_Ways_goOn 35 = .ok (.aload_n 1, 1) := by decide +kernel
theorem d_Ways_goOn_36 : decode b_Ways_goOn 36 = .ok (.iload_n 2, 1) := by decide +kernel
theorem d_Ways_goOn_37 : decode b_Ways_goOn 37 = .ok (.iconst 1, 1) := by decide +kernel
theorem d_Ways_goOn_38 : decode b_Ways_goOn 38 = .ok (.iadd, 1) := by decide +kernel
theorem d_Ways_goOn_39 : decode b_Ways_goOn 39 = .ok (.iload 5, 2) := by decide +kernel
theorem d_Ways_goOn_41 : decode b_Ways_goOn 41 = .ok (.invokevirtual 28, 3) := by decide +kernel
theorem d_Ways_goOn_44 : decode b_Ways_goOn 44 = .ok (.iload 4, 2) := by decide +kernel
theorem d_Ways_goOn_46 : decode b_Ways_goOn 46 = .ok (.invokestatic 58, 3) := by decide +kernel
theorem d_Ways_goOn_49 : decode b_Ways_goOn 49 = .ok (.ifCond .eq 15, 3) := by decide +kernel
theorem d_Ways_goOn_52 : decode b_Ways_goOn 52 = .ok (.aload_n 0, 1) := by decide +kernel
theorem d_Ways_goOn_53 : decode b_Ways_goOn 53 = .ok (.aload_n 1, 1) := by decide +kernel
theorem d_Ways_goOn_54 : decode b_Ways_goOn 54 = .ok (.aload_n 1, 1) := by decide +kernel
theorem d_Ways_goOn_55 : decode b_Ways_goOn 55 = .ok (.iload_n 2, 1) := by decide +kernel
theorem d_Ways_goOn_56 : decode b_Ways_goOn 56 = .ok (.invokevirtual 61, 3) := by decide +kernel
theorem d_Ways_goOn_59 : decode b_Ways_goOn 59 = .ok (.iload 5, 2) := by decide +kernel
theorem d_Ways_goOn_61 : decode b_Ways_goOn 61 = .ok (.invokevirtual 28, 3) := by decide +kernel
theorem d_Ways_goOn_64 : decode b_Ways_goOn 64 = .ok (.return_, 1) := by decide +kernel
theorem d_Ways_reach_0 : decode b_Ways_reach 0 = .ok (.aload_n 1, 1) := by decide +kernel
theorem d_Ways_reach_1 : decode b_Ways_reach 1 = .ok (.iload_n 2, 1) := by decide +kernel
theorem d_Ways_reach_2 : decode b_Ways_reach 2 = .ok (.invokevirtual 64, 3) := by decide +kernel
theorem d_Ways_reach_5 : decode b_Ways_reach 5 = .ok (.ifCond .eq 12, 3) := by decide +kernel
theorem d_Ways_reach_8 : decode b_Ways_reach 8 = .ok (.aload_n 0, 1) := by decide +kernel
theorem d_Ways_reach_9 : decode b_Ways_reach 9 = .ok (.iload_n 2, 1) := by decide +kernel
theorem d_Ways_reach_10 : decode b_Ways_reach 10 = .ok (.iload_n 3, 1) := by decide +kernel
theorem d_Ways_reach_11 : decode b_Ways_reach 11 = .ok (.invokevirtual 67, 3) := by decide +kernel
theorem d_Ways_reach_14 : decode b_Ways_reach 14 = .ok (.ifCond .eq 4, 3) := by decide +kernel
theorem d_Ways_reach_17 : decode b_Ways_reach 17 = .ok (.return_, 1) := by decide +kernel
theorem d_Ways_reach_18 : decode b_Ways_reach 18 = .ok (.aload_n 0, 1) := by decide +kernel
theorem d_Ways_reach_19 : decode b_Ways_reach 19 = .ok (.getfield 9, 3) := by decide +kernel
theorem d_Ways_reach_22 : decode b_Ways_reach 22 = .ok (.iload_n 2, 1) := by decide +kernel
theorem d_Ways_reach_23 : decode b_Ways_reach 23 = .ok (.aload_n 0, 1) := by decide +kernel
theorem d_Ways_reach_24 : decode b_Ways_reach 24 = .ok (.getfield 9, 3) := by decide +kernel
theorem d_Ways_reach_27 : decode b_Ways_reach 27 = .ok (.iload_n 2, 1) := by decide +kernel
theorem d_Ways_reach_28 : decode b_Ways_reach 28 = .ok (.invokestatic 32, 3) := by decide +kernel
theorem d_Ways_reach_31 : decode b_Ways_reach 31 = .ok (.iconst 1, 1) := by decide +kernel
theorem d_Ways_reach_32 : decode b_Ways_reach 32 = .ok (.iload_n 3, 1) := by decide +kernel
theorem d_Ways_reach_33 : decode b_Ways_reach 33 = .ok (.ishl, 1) := by decide +kernel
theorem d_Ways_reach_34 : decode b_Ways_reach 34 = .ok (.ior, 1) := by decide +kernel
theorem d_Ways_reach_35 : decode b_Ways_reach 35 = .ok (.invokestatic 70, 3) := by decide +kernel
theorem d_Ways_reach_38 : decode b_Ways_reach 38 = .ok (.aload_n 0, 1) := by decide +kernel
theorem d_Ways_reach_39 : decode b_Ways_reach 39 = .ok (.getfield 15, 3) := by decide +kernel
theorem d_Ways_reach_42 : decode b_Ways_reach 42 = .ok (.aload_n 0, 1) := by decide +kernel
theorem d_Ways_reach_43 : decode b_Ways_reach 43 = .ok (.getfield 24, 3) := by decide +kernel
theorem d_Ways_reach_46 : decode b_Ways_reach 46 = .ok (.iload_n 2, 1) := by decide +kernel
theorem d_Ways_reach_47 : decode b_Ways_reach 47 = .ok (.bipush 9, 2) := by decide +kernel
theorem d_Ways_reach_49 : decode b_Ways_reach 49 = .ok (.imul, 1) := by decide +kernel
theorem d_Ways_reach_50 : decode b_Ways_reach 50 = .ok (.iload_n 3, 1) := by decide +kernel
theorem d_Ways_reach_51 : decode b_Ways_reach 51 = .ok (.iadd, 1) := by decide +kernel
theorem d_Ways_reach_52 : decode b_Ways_reach 52 = .ok (.invokestatic 70, 3) := by decide +kernel
theorem d_Ways_reach_55 : decode b_Ways_reach 55 = .ok (.aload_n 0, 1) := by decide +kernel
theorem d_Ways_reach_56 : decode b_Ways_reach 56 = .ok (.dup, 1) := by decide +kernel
theorem d_Ways_reach_57 : decode b_Ways_reach 57 = .ok (.getfield 24, 3) := by decide +kernel
theorem d_Ways_reach_60 : decode b_Ways_reach 60 = .ok (.iconst 1, 1) := by decide +kernel
theorem d_Ways_reach_61 : decode b_Ways_reach 61 = .ok (.iadd, 1) := by decide +kernel
theorem d_Ways_reach_62 : decode b_Ways_reach 62 = .ok (.putfield 24, 3) := by decide +kernel
theorem d_Ways_reach_65 : decode b_Ways_reach 65 = .ok (.return_, 1) := by decide +kernel
theorem d_Ways_isReached_0 : decode b_Ways_isReached 0 = .ok (.aload_n 0, 1) := by decide +kernel
theorem d_Ways_isReached_1 : decode b_Ways_isReached 1 = .ok (.getfield 9, 3) := by decide +kernel
theorem d_Ways_isReached_4 : decode b_Ways_isReached 4 = .ok (.iload_n 1, 1) := by decide +kernel
theorem d_Ways_isReached_5 : decode b_Ways_isReached 5 = .ok (.invokestatic 32, 3) := by decide +kernel
theorem d_Ways_isReached_8 : decode b_Ways_isReached 8 = .ok (.iload_n 2, 1) := by decide +kernel
theorem d_Ways_isReached_9 : decode b_Ways_isReached 9 = .ok (.ishr, 1) := by decide +kernel
theorem d_Ways_isReached_10 : decode b_Ways_isReached 10 = .ok (.iconst 1, 1) := by decide +kernel
theorem d_Ways_isReached_11 : decode b_Ways_isReached 11 = .ok (.iand, 1) := by decide +kernel
theorem d_Ways_isReached_12 : decode b_Ways_isReached 12 = .ok (.ifCond .eq 7, 3) := by decide +kernel
theorem d_Ways_isReached_15 : decode b_Ways_isReached 15 = .ok (.iconst 1, 1) := by decide +kernel
theorem d_Ways_isReached_16 : decode b_Ways_isReached 16 = .ok (.goto 4, 3) := by decide +kernel
theorem d_Ways_isReached_19 : decode b_Ways_isReached 19 = .ok (.iconst 0, 1) := by decide +kernel
theorem d_Ways_isReached_20 : decode b_Ways_isReached 20 = .ok (.ireturn, 1) := by decide +kernel
theorem d_Ways_firstWrong_0 : decode b_Ways_firstWrong 0 = .ok (.iconst 0, 1) := by decide +kernel
theorem d_Ways_firstWrong_1 : decode b_Ways_firstWrong 1 = .ok (.istore_n 2, 1) := by decide +kernel
theorem d_Ways_firstWrong_2 : decode b_Ways_firstWrong 2 = .ok (.iload_n 2, 1) := by decide +kernel
theorem d_Ways_firstWrong_3 : decode b_Ways_firstWrong 3 = .ok (.aload_n 1, 1) := by decide +kernel
theorem d_Ways_firstWrong_4 : decode b_Ways_firstWrong 4 = .ok (.getfield 74, 3) := by decide +kernel
theorem d_Ways_firstWrong_7 : decode b_Ways_firstWrong 7 = .ok (.if_icmp .ge 20, 3) := by decide +kernel
theorem d_Ways_firstWrong_10 : decode b_Ways_firstWrong 10 = .ok (.aload_n 0, 1) := by decide +kernel
theorem d_Ways_firstWrong_11 : decode b_Ways_firstWrong 11 = .ok (.aload_n 1, 1) := by decide +kernel
theorem d_Ways_firstWrong_12 : decode b_Ways_firstWrong 12 = .ok (.iload_n 2, 1) := by decide +kernel
theorem d_Ways_firstWrong_13 : decode b_Ways_firstWrong 13 = .ok (.invokevirtual 77, 3) := by decide +kernel
theorem d_Ways_firstWrong_16 : decode b_Ways_firstWrong 16 = .ok (.ifCond .eq 5, 3) := by decide +kernel
theorem d_Ways_firstWrong_19 : decode b_Ways_firstWrong 19 = .ok (.iload_n 2, 1) := by decide +kernel
theorem d_Ways_firstWrong_20 : decode b_Ways_firstWrong 20 = .ok (.ireturn, 1) := by decide +kernel
theorem d_Ways_firstWrong_21 : decode b_Ways_firstWrong 21 = .ok (.iinc 2 1, 3) := by decide +kernel
theorem d_Ways_firstWrong_24 : decode b_Ways_firstWrong 24 = .ok (.goto (-22), 3) := by decide +kernel
theorem d_Ways_firstWrong_27 : decode b_Ways_firstWrong 27 = .ok (.bipush (-2), 2) := by decide +kernel
theorem d_Ways_firstWrong_29 : decode b_Ways_firstWrong 29 = .ok (.ireturn, 1) := by decide +kernel
theorem d_Ways_isWrong_0 : decode b_Ways_isWrong 0 = .ok (.aload_n 1, 1) := by decide +kernel
theorem d_Ways_isWrong_1 : decode b_Ways_isWrong 1 = .ok (.iload_n 2, 1) := by decide +kernel
theorem d_Ways_isWrong_2 : decode b_Ways_isWrong 2 = .ok (.invokevirtual 81, 3) := by decide +kernel
theorem d_Ways_isWrong_5 : decode b_Ways_isWrong 5 = .ok (.ifCond .eq 18, 3) := by decide +kernel
theorem d_Ways_isWrong_8 : decode b_Ways_isWrong 8 = .ok (.aload_n 0, 1) := by decide +kernel
theorem d_Ways_isWrong_9 : decode b_Ways_isWrong 9 = .ok (.getfield 9, 3) := by decide +kernel
theorem d_Ways_isWrong_12 : decode b_Ways_isWrong 12 = .ok (.iload_n 2, 1) := by decide +kernel
theorem d_Ways_isWrong_13 : decode b_Ways_isWrong 13 = .ok (.invokestatic 32, 3) := by decide +kernel
theorem d_Ways_isWrong_16 : decode b_Ways_isWrong 16 = .ok (.invokestatic 84, 3) := by decide +kernel
theorem d_Ways_isWrong_19 : decode b_Ways_isWrong 19 = .ok (.iconst 1, 1) := by decide +kernel
theorem d_Ways_isWrong_20 : decode b_Ways_isWrong 20 = .ok (.if_icmp .le 5, 3) := by decide +kernel
theorem d_Ways_isWrong_23 : decode b_Ways_isWrong 23 = .ok (.iconst 1, 1) := by decide +kernel
theorem d_Ways_isWrong_24 : decode b_Ways_isWrong 24 = .ok (.ireturn, 1) := by decide +kernel
theorem d_Ways_isWrong_25 : decode b_Ways_isWrong 25 = .ok (.iconst 0, 1) := by decide +kernel
theorem d_Ways_isWrong_26 : decode b_Ways_isWrong 26 = .ok (.istore_n 3, 1) := by decide +kernel
theorem d_Ways_isWrong_27 : decode b_Ways_isWrong 27 = .ok (.iload_n 3, 1) := by decide +kernel
theorem d_Ways_isWrong_28 : decode b_Ways_isWrong 28 = .ok (.bipush 9, 2) := by decide +kernel
theorem d_Ways_isWrong_30 : decode b_Ways_isWrong 30 = .ok (.if_icmp .ge 29, 3) := by decide +kernel
theorem d_Ways_isWrong_33 : decode b_Ways_isWrong 33 = .ok (.aload_n 0, 1) := by decide +kernel
theorem d_Ways_isWrong_34 : decode b_Ways_isWrong 34 = .ok (.iload_n 2, 1) := by decide +kernel
theorem d_Ways_isWrong_35 : decode b_Ways_isWrong 35 = .ok (.iload_n 3, 1) := by decide +kernel
theorem d_Ways_isWrong_36 : decode b_Ways_isWrong 36 = .ok (.invokevirtual 67, 3) := by decide +kernel
theorem d_Ways_isWrong_39 : decode b_Ways_isWrong 39 = .ok (.ifCond .eq 14, 3) := by decide +kernel
theorem d_Ways_isWrong_42 : decode b_Ways_isWrong 42 = .ok (.aload_n 1, 1) := by decide +kernel
theorem d_Ways_isWrong_43 : decode b_Ways_isWrong 43 = .ok (.iload_n 2, 1) := by decide +kernel
theorem d_Ways_isWrong_44 : decode b_Ways_isWrong 44 = .ok (.iload_n 3, 1) := by decide +kernel
theorem d_Ways_isWrong_45 : decode b_Ways_isWrong 45 = .ok (.invokevirtual 39, 3) := by decide +kernel
theorem d_Ways_isWrong_48 : decode b_Ways_isWrong 48 = .ok (.ifCond .ne 5, 3) := by decide +kernel
theorem d_Ways_isWrong_51 : decode b_Ways_isWrong 51 = .ok (.iconst 1, 1) := by decide +kernel
theorem d_Ways_isWrong_52 : decode b_Ways_isWrong 52 = .ok (.ireturn, 1) := by decide +kernel
theorem d_Ways_isWrong_53 : decode b_Ways_isWrong 53 = .ok (.iinc 3 1, 3) := by decide +kernel
theorem d_Ways_isWrong_56 : decode b_Ways_isWrong 56 = .ok (.goto (-29), 3) := by decide +kernel
theorem d_Ways_isWrong_59 : decode b_Ways_isWrong 59 = .ok (.iconst 0, 1) := by decide +kernel
theorem d_Ways_isWrong_60 : decode b_Ways_isWrong 60 = .ok (.ireturn, 1) := by decide +kernel
theorem d_Integer_bitCount_0 : decode b_Integer_bitCount 0 = .ok (.iload_n 0, 1) := by decide +kernel
theorem d_Integer_bitCount_1 : decode b_Integer_bitCount 1 = .ok (.iload_n 0, 1) := by decide +kernel
theorem d_Integer_bitCount_2 : decode b_Integer_bitCount 2 = .ok (.iconst 1, 1) := by decide +kernel
theorem d_Integer_bitCount_3 : decode b_Integer_bitCount 3 = .ok (.iushr, 1) := by decide +kernel
theorem d_Integer_bitCount_4 : decode b_Integer_bitCount 4 = .ok (.ldc_w 265, 3) := by decide +kernel
theorem d_Integer_bitCount_7 : decode b_Integer_bitCount 7 = .ok (.iand, 1) := by decide +kernel
theorem d_Integer_bitCount_8 : decode b_Integer_bitCount 8 = .ok (.isub, 1) := by decide +kernel
theorem d_Integer_bitCount_9 : decode b_Integer_bitCount 9 = .ok (.istore_n 0, 1) := by decide +kernel
theorem d_Integer_bitCount_10 : decode b_Integer_bitCount 10 = .ok (.iload_n 0, 1) := by decide +kernel
theorem d_Integer_bitCount_11 : decode b_Integer_bitCount 11 = .ok (.ldc_w 266, 3) := by decide +kernel
theorem d_Integer_bitCount_14 : decode b_Integer_bitCount 14 = .ok (.iand, 1) := by decide +kernel
theorem d_Integer_bitCount_15 : decode b_Integer_bitCount 15 = .ok (.iload_n 0, 1) := by decide +kernel
theorem d_Integer_bitCount_16 : decode b_Integer_bitCount 16 = .ok (.iconst 2, 1) := by decide +kernel
theorem d_Integer_bitCount_17 : decode b_Integer_bitCount 17 = .ok (.iushr, 1) := by decide +kernel
theorem d_Integer_bitCount_18 : decode b_Integer_bitCount 18 = .ok (.ldc_w 266, 3) := by decide +kernel
theorem d_Integer_bitCount_21 : decode b_Integer_bitCount 21 = .ok (.iand, 1) := by decide +kernel
theorem d_Integer_bitCount_22 : decode b_Integer_bitCount 22 = .ok (.iadd, 1) := by decide +kernel
theorem d_Integer_bitCount_23 : decode b_Integer_bitCount 23 = .ok (.istore_n 0, 1) := by decide +kernel
theorem d_Integer_bitCount_24 : decode b_Integer_bitCount 24 = .ok (.iload_n 0, 1) := by decide +kernel
theorem d_Integer_bitCount_25 : decode b_Integer_bitCount 25 = .ok (.iload_n 0, 1) := by decide +kernel
theorem d_Integer_bitCount_26 : decode b_Integer_bitCount 26 = .ok (.iconst 4, 1) := by decide +kernel
theorem d_Integer_bitCount_27 : decode b_Integer_bitCount 27 = .ok (.iushr, 1) := by decide +kernel
theorem d_Integer_bitCount_28 : decode b_Integer_bitCount 28 = .ok (.iadd, 1) := by decide +kernel
theorem d_Integer_bitCount_29 : decode b_Integer_bitCount 29 = .ok (.ldc_w 267, 3) := by decide +kernel
theorem d_Integer_bitCount_32 : decode b_Integer_bitCount 32 = .ok (.iand, 1) := by decide +kernel
theorem d_Integer_bitCount_33 : decode b_Integer_bitCount 33 = .ok (.istore_n 0, 1) := by decide +kernel
theorem d_Integer_bitCount_34 : decode b_Integer_bitCount 34 = .ok (.iload_n 0, 1) := by decide +kernel
theorem d_Integer_bitCount_35 : decode b_Integer_bitCount 35 = .ok (.iload_n 0, 1) := by decide +kernel
theorem d_Integer_bitCount_36 : decode b_Integer_bitCount 36 = .ok (.bipush 8, 2) := by decide +kernel
theorem d_Integer_bitCount_38 : decode b_Integer_bitCount 38 = .ok (.iushr, 1) := by decide +kernel
theorem d_Integer_bitCount_39 : decode b_Integer_bitCount 39 = .ok (.iadd, 1) := by decide +kernel
theorem d_Integer_bitCount_40 : decode b_Integer_bitCount 40 = .ok (.istore_n 0, 1) := by decide +kernel
theorem d_Integer_bitCount_41 : decode b_Integer_bitCount 41 = .ok (.iload_n 0, 1) := by decide +kernel
theorem d_Integer_bitCount_42 : decode b_Integer_bitCount 42 = .ok (.iload_n 0, 1) := by decide +kernel
theorem d_Integer_bitCount_43 : decode b_Integer_bitCount 43 = .ok (.bipush 16, 2) := by decide +kernel
theorem d_Integer_bitCount_45 : decode b_Integer_bitCount 45 = .ok (.iushr, 1) := by decide +kernel
theorem d_Integer_bitCount_46 : decode b_Integer_bitCount 46 = .ok (.iadd, 1) := by decide +kernel
theorem d_Integer_bitCount_47 : decode b_Integer_bitCount 47 = .ok (.istore_n 0, 1) := by decide +kernel
theorem d_Integer_bitCount_48 : decode b_Integer_bitCount 48 = .ok (.iload_n 0, 1) := by decide +kernel
theorem d_Integer_bitCount_49 : decode b_Integer_bitCount 49 = .ok (.bipush 63, 2) := by decide +kernel
theorem d_Integer_bitCount_51 : decode b_Integer_bitCount 51 = .ok (.iand, 1) := by decide +kernel
theorem d_Integer_bitCount_52 : decode b_Integer_bitCount 52 = .ok (.ireturn, 1) := by decide +kernel
theorem d_Arrays_fill_0 : decode b_Arrays_fill 0 = .ok (.iconst 0, 1) := by decide +kernel
theorem d_Arrays_fill_1 : decode b_Arrays_fill 1 = .ok (.istore_n 2, 1) := by decide +kernel
theorem d_Arrays_fill_2 : decode b_Arrays_fill 2 = .ok (.aload_n 0, 1) := by decide +kernel
theorem d_Arrays_fill_3 : decode b_Arrays_fill 3 = .ok (.arraylength, 1) := by decide +kernel
theorem d_Arrays_fill_4 : decode b_Arrays_fill 4 = .ok (.istore_n 3, 1) := by decide +kernel
theorem d_Arrays_fill_5 : decode b_Arrays_fill 5 = .ok (.iload_n 2, 1) := by decide +kernel
theorem d_Arrays_fill_6 : decode b_Arrays_fill 6 = .ok (.iload_n 3, 1) := by decide +kernel
theorem d_Arrays_fill_7 : decode b_Arrays_fill 7 = .ok (.if_icmp .ge 13, 3) := by decide +kernel
theorem d_Arrays_fill_10 : decode b_Arrays_fill 10 = .ok (.aload_n 0, 1) := by decide +kernel
theorem d_Arrays_fill_11 : decode b_Arrays_fill 11 = .ok (.iload_n 2, 1) := by decide +kernel
theorem d_Arrays_fill_12 : decode b_Arrays_fill 12 = .ok (.iload_n 1, 1) := by decide +kernel
theorem d_Arrays_fill_13 : decode b_Arrays_fill 13 = .ok (.iastore, 1) := by decide +kernel
theorem d_Arrays_fill_14 : decode b_Arrays_fill 14 = .ok (.iinc 2 1, 3) := by decide +kernel
theorem d_Arrays_fill_17 : decode b_Arrays_fill 17 = .ok (.goto (-12), 3) := by decide +kernel
theorem d_Arrays_fill_20 : decode b_Arrays_fill 20 = .ok (.return_, 1) := by decide +kernel
