theorem dX3_goBack_10 : decode cX3_goBack 10 = .ok (.dup, 1) := by decide +kernel
theorem dX3_goBack_11 : decode cX3_goBack 11 = .ok (.getfield 25, 3) := by decide +kernel
theorem dX3_goBack_14 : decode cX3_goBack 14 = .ok (.iconst 1, 1) := by decide +kernel
theorem dX3_goBack_15 : decode cX3_goBack 15 = .ok (.isub, 1) := by decide +kernel
theorem dX3_goBack_16 : decode cX3_goBack 16 = .ok (.putfield 25, 3) := by decide +kernel
theorem dX3_goBack_19 : decode cX3_goBack 19 = .ok (.aload_n 0, 1) := by decide +kernel
theorem dX3_goBack_20 : decode cX3_goBack 20 = .ok (.aload_n 1, 1) := by decide +kernel
theorem dX3_goBack_21 : decode cX3_goBack 21 = .ok (.invokevirtual 36, 3) := by decide +kernel
theorem dX3_goBack_24 : decode cX3_goBack 24 = .ok (.iconst 1, 1) := by decide +kernel
theorem dX3_goBack_25 : decode cX3_goBack 25 = .ok (.ireturn, 1) := by decide +kernel
theorem dX4_init_0 : decode cX4_init 0 = .ok (.aload_n 0, 1) := by decide +kernel
theorem dX4_init_1 : decode cX4_init 1 = .ok (.invokespecial 1, 3) := by decide +kernel
theorem dX4_init_4 : decode cX4_init 4 = .ok (.aload_n 0, 1) := by decide +kernel
theorem dX4_init_5 : decode cX4_init 5 = .ok (.new 7, 3) := by decide +kernel
theorem dX4_init_8 : decode cX4_init 8 = .ok (.dup, 1) := by decide +kernel
theorem dX4_init_9 : decode cX4_init 9 = .ok (.invokespecial 9, 3) := by decide +kernel
theorem dX4_init_12 : decode cX4_init 12 = .ok (.putfield 10, 3) := by decide +kernel
theorem dX4_init_15 : decode cX4_init 15 = .ok (.aload_n 0, 1) := by decide +kernel
theorem dX4_init_16 : decode cX4_init 16 = .ok (.new 16, 3) := by decide +kernel
theorem dX4_init_19 : decode cX4_init 19 = .ok (.dup, 1) := by decide +kernel
theorem dX4_init_20 : decode cX4_init 20 = .ok (.invokespecial 18, 3) := by decide +kernel
theorem dX4_init_23 : decode cX4_init 23 = .ok (.putfield 19, 3) := by decide +kernel
theorem dX4_init_26 : decode cX4_init 26 = .ok (.aload_n 0, 1) := by decide +kernel
theorem dX4_init_27 : decode cX4_init 27 = .ok (.new 23, 3) := by decide +kernel
theorem dX4_init_30 : decode cX4_init 30 = .ok (.dup, 1) := by decide +kernel
theorem dX4_init_31 : decode cX4_init 31 = .ok (.invokespecial 25, 3) := by decide +kernel
theorem dX4_init_34 : decode cX4_init 34 = .ok (.putfield 26, 3) := by decide +kernel
theorem dX4_init_37 : decode cX4_init 37 = .ok (.aload_n 0, 1) := by decide +kernel
theorem dX4_init_38 : decode cX4_init 38 = .ok (.new 30, 3) := by decide +kernel
theorem dX4_init_41 : decode cX4_init 41 = .ok (.dup, 1) := by decide +kernel
theorem dX4_init_42 : decode cX4_init 42 = .ok (.invokespecial 32, 3) := by decide +kernel
theorem dX4_init_45 : decode cX4_init 45 = .ok (.putfield 33, 3) := by decide +kernel
theorem dX4_init_48 : decode cX4_init 48 = .ok (.aload_n 0, 1) := by decide +kernel
theorem dX4_init_49 : decode cX4_init 49 = .ok (.bipush 120, 2) := by decide +kernel
theorem dX4_init_51 : decode cX4_init 51 = .ok (.newarray .int, 2) := by decide +kernel
theorem dX4_init_53 : decode cX4_init 53 = .ok (.putfield 37, 3) := by decide +kernel
theorem dX4_init_56 : decode cX4_init 56 = .ok (.aload_n 0, 1) := by decide +kernel
theorem dX4_init_57 : decode cX4_init 57 = .ok (.iconst 0, 1) := by decide +kernel
theorem dX4_init_58 : decode cX4_init 58 = .ok (.putfield 41, 3) := by decide +kernel
theorem dX4_init_61 : decode cX4_init 61 = .ok (.aload_n 0, 1) := by decide +kernel
theorem dX4_init_62 : decode cX4_init 62 = .ok (.iconst 3, 1) := by decide +kernel
theorem dX4_init_63 : decode cX4_init 63 = .ok (.newarray .int, 2) := by decide +kernel
theorem dX4_init_65 : decode cX4_init 65 = .ok (.putfield 45, 3) := by decide +kernel
theorem dX4_init_68 : decode cX4_init 68 = .ok (.return_, 1) := by decide +kernel
theorem dX4_puts_0 : decode cX4_puts 0 = .ok (.aload_n 0, 1) := by decide +kernel
theorem dX4_puts_1 : decode cX4_puts 1 = .ok (.bipush 112, 2) := by decide +kernel
theorem dX4_puts_3 : decode cX4_puts 3 = .ok (.iload_n 1, 1) := by decide +kernel
theorem dX4_puts_4 : decode cX4_puts 4 = .ok (.iload_n 2, 1) := by decide +kernel
theorem dX4_puts_5 : decode cX4_puts 5 = .ok (.invokevirtual 48, 3) := by decide +kernel
theorem dX4_puts_8 : decode cX4_puts 8 = .ok (.istore_n 3, 1) := by decide +kernel
theorem dX4_puts_9 : decode cX4_puts 9 = .ok (.iload_n 3, 1) := by decide +kernel
theorem dX4_puts_10 : decode cX4_puts 10 = .ok (.ifCond .ne 12, 3) := by decide +kernel
theorem dX4_puts_13 : decode cX4_puts 13 = .ok (.aload_n 0, 1) := by decide +kernel
theorem dX4_puts_14 : decode cX4_puts 14 = .ok (.iload_n 1, 1) := by decide +kernel
theorem dX4_puts_15 : decode cX4_puts 15 = .ok (.iload_n 2, 1) := by decide +kernel
theorem dX4_puts_16 : decode cX4_puts 16 = .ok (.invokevirtual 52, 3) := by decide +kernel
theorem dX4_puts_19 : decode cX4_puts 19 = .ok (.goto 4, 3) := by decide +kernel
theorem dX4_puts_22 : decode cX4_puts 22 = .ok (.iload_n 3, 1) := by decide +kernel
theorem dX4_puts_23 : decode cX4_puts 23 = .ok (.ireturn, 1) := by decide +kernel
theorem dX4_takes_0 : decode cX4_takes 0 = .ok (.aload_n 0, 1) := by decide +kernel
theorem dX4_takes_1 : decode cX4_takes 1 = .ok (.bipush 116, 2) := by decide +kernel
theorem dX4_takes_3 : decode cX4_takes 3 = .ok (.iload_n 1, 1) := by decide +kernel
theorem dX4_takes_4 : decode cX4_takes 4 = .ok (.iconst 0, 1) := by decide +kernel
theorem dX4_takes_5 : decode cX4_takes 5 = .ok (.invokevirtual 48, 3) := by decide +kernel
theorem dX4_takes_8 : decode cX4_takes 8 = .ok (.istore_n 2, 1) := by decide +kernel
theorem dX4_takes_9 : decode cX4_takes 9 = .ok (.iload_n 2, 1) := by decide +kernel
theorem dX4_takes_10 : decode cX4_takes 10 = .ok (.ifCond .ne 11, 3) := by decide +kernel
theorem dX4_takes_13 : decode cX4_takes 13 = .ok (.aload_n 0, 1) := by decide +kernel
theorem dX4_takes_14 : decode cX4_takes 14 = .ok (.iload_n 1, 1) := by decide +kernel
theorem dX4_takes_15 : decode cX4_takes 15 = .ok (.invokevirtual 56, 3) := by decide +kernel
theorem dX4_takes_18 : decode cX4_takes 18 = .ok (.goto 4, 3) := by decide +kernel
theorem dX4_takes_21 : decode cX4_takes 21 = .ok (.iload_n 2, 1) := by decide +kernel
theorem dX4_takes_22 : decode cX4_takes 22 = .ok (.ireturn, 1) := by decide +kernel
theorem dX4_drops_0 : decode cX4_drops 0 = .ok (.aload_n 0, 1) := by decide +kernel
theorem dX4_drops_1 : decode cX4_drops 1 = .ok (.bipush 100, 2) := by decide +kernel
theorem dX4_drops_3 : decode cX4_drops 3 = .ok (.iload_n 1, 1) := by decide +kernel
theorem dX4_drops_4 : decode cX4_drops 4 = .ok (.iload_n 2, 1) := by decide +kernel
theorem dX4_drops_5 : decode cX4_drops 5 = .ok (.invokevirtual 48, 3) := by decide +kernel
theorem dX4_drops_8 : decode cX4_drops 8 = .ok (.istore_n 3, 1) := by decide +kernel
theorem dX4_drops_9 : decode cX4_drops 9 = .ok (.iload_n 3, 1) := by decide +kernel
theorem dX4_drops_10 : decode cX4_drops 10 = .ok (.ifCond .ne 12, 3) := by decide +kernel
theorem dX4_drops_13 : decode cX4_drops 13 = .ok (.aload_n 0, 1) := by decide +kernel
theorem dX4_drops_14 : decode cX4_drops 14 = .ok (.iload_n 1, 1) := by decide +kernel
theorem dX4_drops_15 : decode cX4_drops 15 = .ok (.iload_n 2, 1) := by decide +kernel
theorem dX4_drops_16 : decode cX4_drops 16 = .ok (.invokevirtual 60, 3) := by decide +kernel
theorem dX4_drops_19 : decode cX4_drops 19 = .ok (.goto 4, 3) := by decide +kernel
theorem dX4_drops_22 : decode cX4_drops 22 = .ok (.iload_n 3, 1) := by decide +kernel
theorem dX4_drops_23 : decode cX4_drops 23 = .ok (.ireturn, 1) := by decide +kernel
theorem dX4_mode_0 : decode cX4_mode 0 = .ok (.aload_n 0, 1) := by decide +kernel
theorem dX4_mode_1 : decode cX4_mode 1 = .ok (.bipush 109, 2) := by decide +kernel
theorem dX4_mode_3 : decode cX4_mode 3 = .ok (.iload_n 1, 1) := by decide +kernel
theorem dX4_mode_4 : decode cX4_mode 4 = .ok (.iconst 0, 1) := by decide +kernel
theorem dX4_mode_5 : decode cX4_mode 5 = .ok (.invokevirtual 48, 3) := by decide +kernel
theorem dX4_mode_8 : decode cX4_mode 8 = .ok (.istore_n 2, 1) := by decide +kernel
theorem dX4_mode_9 : decode cX4_mode 9 = .ok (.iload_n 2, 1) := by decide +kernel
theorem dX4_mode_10 : decode cX4_mode 10 = .ok (.ifCond .ne 11, 3) := by decide +kernel
theorem dX4_mode_13 : decode cX4_mode 13 = .ok (.aload_n 0, 1) := by decide +kernel
theorem dX4_mode_14 : decode cX4_mode 14 = .ok (.iload_n 1, 1) := by decide +kernel
theorem dX4_mode_15 : decode cX4_mode 15 = .ok (.invokevirtual 63, 3) := by decide +kernel
theorem dX4_mode_18 : decode cX4_mode 18 = .ok (.goto 4, 3) := by decide +kernel
theorem dX4_mode_21 : decode cX4_mode 21 = .ok (.iload_n 2, 1) := by decide +kernel
theorem dX4_mode_22 : decode cX4_mode 22 = .ok (.ireturn, 1) := by decide +kernel
theorem dX4_spaces_0 : decode cX4_spaces 0 = .ok (.aload_n 0, 1) := by decide +kernel
theorem dX4_spaces_1 : decode cX4_spaces 1 = .ok (.getfield 26, 3) := by decide +kernel
theorem dX4_spaces_4 : decode cX4_spaces 4 = .ok (.aload_n 0, 1) := by decide +kernel
theorem dX4_spaces_5 : decode cX4_spaces 5 = .ok (.getfield 10, 3) := by decide +kernel
theorem dX4_spaces_8 : decode cX4_spaces 8 = .ok (.invokevirtual 66, 3) := by decide +kernel
theorem dX4_spaces_11 : decode cX4_spaces 11 = .ok (.aload_n 0, 1) := by decide +kernel
theorem dX4_spaces_12 : decode cX4_spaces 12 = .ok (.getfield 19, 3) := by decide +kernel
theorem dX4_spaces_15 : decode cX4_spaces 15 = .ok (.aload_n 0, 1) := by decide +kernel
theorem dX4_spaces_16 : decode cX4_spaces 16 = .ok (.getfield 10, 3) := by decide +kernel
theorem dX4_spaces_19 : decode cX4_spaces 19 = .ok (.iconst 0, 1) := by decide +kernel
theorem dX4_spaces_20 : decode cX4_spaces 20 = .ok (.aload_n 0, 1) := by decide +kernel
theorem dX4_spaces_21 : decode cX4_spaces 21 = .ok (.getfield 10, 3) := by decide +kernel
theorem dX4_spaces_24 : decode cX4_spaces 24 = .ok (.getfield 70, 3) := by decide +kernel
theorem dX4_spaces_27 : decode cX4_spaces 27 = .ok (.invokevirtual 73, 3) := by decide +kernel
theorem dX4_spaces_30 : decode cX4_spaces 30 = .ok (.ireturn, 1) := by decide +kernel
theorem dX4_value_0 : decode cX4_value 0 = .ok (.iload_n 1, 1) := by decide +kernel
theorem dX4_value_1 : decode cX4_value 1 = .ok (.sipush 999, 3) := by decide +kernel
theorem dX4_value_4 : decode cX4_value 4 = .ok (.invokestatic 77, 3) := by decide +kernel
theorem dX4_value_7 : decode cX4_value 7 = .ok (.ifCond .ne 10, 3) := by decide +kernel
theorem dX4_value_10 : decode cX4_value 10 = .ok (.aload_n 0, 1) := by decide +kernel
theorem dX4_value_11 : decode cX4_value 11 = .ok (.bipush (-2), 2) := by decide +kernel
theorem dX4_value_13 : decode cX4_value 13 = .ok (.invokevirtual 81, 3) := by decide +kernel
theorem dX4_value_16 : decode cX4_value 16 = .ok (.ireturn, 1) := by decide +kernel
theorem dX4_value_17 : decode cX4_value 17 = .ok (.aload_n 0, 1) := by decide +kernel
theorem dX4_value_18 : decode cX4_value 18 = .ok (.getfield 10, 3) := by decide +kernel
theorem dX4_value_21 : decode cX4_value 21 = .ok (.iload_n 1, 1) := by decide +kernel
theorem dX4_value_22 : decode cX4_value 22 = .ok (.invokevirtual 84, 3) := by decide +kernel
theorem dX4_value_25 : decode cX4_value 25 = .ok (.istore_n 2, 1) := by decide +kernel
theorem dX4_value_26 : decode cX4_value 26 = .ok (.iload_n 2, 1) := by decide +kernel
theorem dX4_value_27 : decode cX4_value 27 = .ok (.iconst (-1), 1) := by decide +kernel
theorem dX4_value_28 : decode cX4_value 28 = .ok (.if_icmp .ne 12, 3) := by decide +kernel
theorem dX4_value_31 : decode cX4_value 31 = .ok (.aload_n 0, 1) := by decide +kernel
theorem dX4_value_32 : decode cX4_value 32 = .ok (.bipush (-3), 2) := by decide +kernel
theorem dX4_value_34 : decode cX4_value 34 = .ok (.invokevirtual 81, 3) := by decide +kernel
theorem dX4_value_37 : decode cX4_value 37 = .ok (.goto 11, 3) := by decide +kernel
theorem dX4_value_40 : decode cX4_value 40 = .ok (.aload_n 0, 1) := by decide +kernel
theorem dX4_value_41 : decode cX4_value 41 = .ok (.getfield 10, 3) := by decide +kernel
theorem dX4_value_44 : decode cX4_value 44 = .ok (.iload_n 2, 1) := by decide +kernel
theorem dX4_value_45 : decode cX4_value 45 = .ok (.invokevirtual 87, 3) := by decide +kernel
theorem dX4_value_48 : decode cX4_value 48 = .ok (.ireturn, 1) := by decide +kernel
theorem dX4_cell_0 : decode cX4_cell 0 = .ok (.iload_n 1, 1) := by decide +kernel
theorem dX4_cell_1 : decode cX4_cell 1 = .ok (.sipush 999, 3) := by decide +kernel
theorem dX4_cell_4 : decode cX4_cell 4 = .ok (.invokestatic 77, 3) := by decide +kernel
theorem dX4_cell_7 : decode cX4_cell 7 = .ok (.ifCond .eq 14, 3) := by decide +kernel
theorem dX4_cell_10 : decode cX4_cell 10 = .ok (.aload_n 0, 1) := by decide +kernel
theorem dX4_cell_11 : decode cX4_cell 11 = .ok (.getfield 10, 3) := by decide +kernel
theorem dX4_cell_14 : decode cX4_cell 14 = .ok (.iload_n 1, 1) := by decide +kernel
theorem dX4_cell_15 : decode cX4_cell 15 = .ok (.invokevirtual 84, 3) := by decide +kernel
theorem dX4_cell_18 : decode cX4_cell 18 = .ok (.goto 9, 3) := by decide +kernel
theorem dX4_cell_21 : decode cX4_cell 21 = .ok (.aload_n 0, 1) := by decide +kernel
theorem dX4_cell_22 : decode cX4_cell 22 = .ok (.bipush (-2), 2) := by decide +kernel
theorem dX4_cell_24 : decode cX4_cell 24 = .ok (.invokevirtual 81, 3) := by decide +kernel
theorem dX4_cell_27 : decode cX4_cell 27 = .ok (.ireturn, 1) := by decide +kernel
theorem dX4_at_0 : decode cX4_at 0 = .ok (.iload_n 1, 1) := by decide +kernel
theorem dX4_at_1 : decode cX4_at 1 = .ok (.aload_n 0, 1) := by decide +kernel
theorem dX4_at_2 : decode cX4_at 2 = .ok (.getfield 10, 3) := by decide +kernel
theorem dX4_at_5 : decode cX4_at 5 = .ok (.getfield 70, 3) := by decide +kernel
theorem dX4_at_8 : decode cX4_at 8 = .ok (.iconst 1, 1) := by decide +kernel
theorem dX4_at_9 : decode cX4_at 9 = .ok (.isub, 1) := by decide +kernel
theorem dX4_at_10 : decode cX4_at 10 = .ok (.invokestatic 77, 3) := by decide +kernel
theorem dX4_at_13 : decode cX4_at 13 = .ok (.ifCond .eq 14, 3) := by decide +kernel
theorem dX4_at_16 : decode cX4_at 16 = .ok (.aload_n 0, 1) := by decide +kernel
theorem dX4_at_17 : decode cX4_at 17 = .ok (.getfield 10, 3) := by decide +kernel
theorem dX4_at_20 : decode cX4_at 20 = .ok (.iload_n 1, 1) := by decide +kernel
theorem dX4_at_21 : decode cX4_at 21 = .ok (.invokevirtual 90, 3) := by decide +kernel
theorem dX4_at_24 : decode cX4_at 24 = .ok (.goto 9, 3) := by decide +kernel
theorem dX4_at_27 : decode cX4_at 27 = .ok (.aload_n 0, 1) := by decide +kernel
theorem dX4_at_28 : decode cX4_at 28 = .ok (.bipush (-2), 2) := by decide +kernel
theorem dX4_at_30 : decode cX4_at 30 = .ok (.invokevirtual 81, 3) := by decide +kernel
theorem dX4_at_33 : decode cX4_at 33 = .ok (.ireturn, 1) := by decide +kernel
theorem dX4_rank_0 : decode cX4_rank 0 = .ok (.iload_n 1, 1) := by decide +kernel
theorem dX4_rank_1 : decode cX4_rank 1 = .ok (.sipush 1000, 3) := by decide +kernel
theorem dX4_rank_4 : decode cX4_rank 4 = .ok (.invokestatic 77, 3) := by decide +kernel
theorem dX4_rank_7 : decode cX4_rank 7 = .ok (.ifCond .eq 14, 3) := by decide +kernel
theorem dX4_rank_10 : decode cX4_rank 10 = .ok (.aload_n 0, 1) := by decide +kernel
theorem dX4_rank_11 : decode cX4_rank 11 = .ok (.getfield 10, 3) := by decide +kernel
theorem dX4_rank_14 : decode cX4_rank 14 = .ok (.iload_n 1, 1) := by decide +kernel
theorem dX4_rank_15 : decode cX4_rank 15 = .ok (.invokevirtual 93, 3) := by decide +kernel
theorem dX4_rank_18 : decode cX4_rank 18 = .ok (.goto 9, 3) := by decide +kernel
theorem dX4_rank_21 : decode cX4_rank 21 = .ok (.aload_n 0, 1) := by decide +kernel
theorem dX4_rank_22 : decode cX4_rank 22 = .ok (.bipush (-2), 2) := by decide +kernel
theorem dX4_rank_24 : decode cX4_rank 24 = .ok (.invokevirtual 81, 3) := by decide +kernel
theorem dX4_rank_27 : decode cX4_rank 27 = .ok (.ireturn, 1) := by decide +kernel
theorem dX4_key_0 : decode cX4_key 0 = .ok (.iload_n 1, 1) := by decide +kernel
theorem dX4_key_1 : decode cX4_key 1 = .ok (.ifCond .lt 14, 3) := by decide +kernel
theorem dX4_key_4 : decode cX4_key 4 = .ok (.aload_n 0, 1) := by decide +kernel
theorem dX4_key_5 : decode cX4_key 5 = .ok (.getfield 10, 3) := by decide +kernel
theorem dX4_key_8 : decode cX4_key 8 = .ok (.iload_n 1, 1) := by decide +kernel
theorem dX4_key_9 : decode cX4_key 9 = .ok (.invokevirtual 96, 3) := by decide +kernel
theorem dX4_key_12 : decode cX4_key 12 = .ok (.goto 9, 3) := by decide +kernel
theorem dX4_key_15 : decode cX4_key 15 = .ok (.aload_n 0, 1) := by decide +kernel
theorem dX4_key_16 : decode cX4_key 16 = .ok (.bipush (-2), 2) := by decide +kernel
theorem dX4_key_18 : decode cX4_key 18 = .ok (.invokevirtual 81, 3) := by decide +kernel
theorem dX4_key_21 : decode cX4_key 21 = .ok (.ireturn, 1) := by decide +kernel
theorem dX4_scan_0 : decode cX4_scan 0 = .ok (.iload_n 1, 1) := by decide +kernel
theorem dX4_scan_1 : decode cX4_scan 1 = .ok (.iload_n 2, 1) := by decide +kernel
theorem dX4_scan_2 : decode cX4_scan 2 = .ok (.invokestatic 99, 3) := by decide +kernel
theorem dX4_scan_5 : decode cX4_scan 5 = .ok (.ifCond .eq 11, 3) := by decide +kernel
theorem dX4_scan_8 : decode cX4_scan 8 = .ok (.iload_n 3, 1) := by decide +kernel
theorem dX4_scan_9 : decode cX4_scan 9 = .ok (.iconst 2, 1) := by decide +kernel
theorem dX4_scan_10 : decode cX4_scan 10 = .ok (.invokestatic 77, 3) := by decide +kernel
theorem dX4_scan_13 : decode cX4_scan 13 = .ok (.ifCond .ne 10, 3) := by decide +kernel
theorem dX4_scan_16 : decode cX4_scan 16 = .ok (.aload_n 0, 1) := by decide +kernel
theorem dX4_scan_17 : decode cX4_scan 17 = .ok (.bipush (-2), 2) := by decide +kernel
theorem dX4_scan_19 : decode cX4_scan 19 = .ok (.invokevirtual 81, 3) := by decide +kernel
theorem dX4_scan_22 : decode cX4_scan 22 = .ok (.ireturn, 1) := by decide +kernel
theorem dX4_scan_23 : decode cX4_scan 23 = .ok (.iload_n 3, 1) := by decide +kernel
theorem dX4_scan_24 : decode cX4_scan 24 = .ok (.ifCond .ne 23, 3) := by decide +kernel
theorem dX4_scan_27 : decode cX4_scan 27 = .ok (.aload_n 0, 1) := by decide +kernel
theorem dX4_scan_28 : decode cX4_scan 28 = .ok (.getfield 10, 3) := by decide +kernel
theorem dX4_scan_31 : decode cX4_scan 31 = .ok (.iload_n 2, 1) := by decide +kernel
theorem dX4_scan_32 : decode cX4_scan 32 = .ok (.iconst 1, 1) := by decide +kernel
theorem dX4_scan_33 : decode cX4_scan 33 = .ok (.iadd, 1) := by decide +kernel
theorem dX4_scan_34 : decode cX4_scan 34 = .ok (.invokevirtual 93, 3) := by decide +kernel
theorem dX4_scan_37 : decode cX4_scan 37 = .ok (.aload_n 0, 1) := by decide +kernel
theorem dX4_scan_38 : decode cX4_scan 38 = .ok (.getfield 10, 3) := by decide +kernel
theorem dX4_scan_41 : decode cX4_scan 41 = .ok (.iload_n 1, 1) := by decide +kernel
theorem dX4_scan_42 : decode cX4_scan 42 = .ok (.invokevirtual 93, 3) := by decide +kernel
theorem dX4_scan_45 : decode cX4_scan 45 = .ok (.isub, 1) := by decide +kernel
theorem dX4_scan_46 : decode cX4_scan 46 = .ok (.ireturn, 1) := by decide +kernel
theorem dX4_scan_47 : decode cX4_scan 47 = .ok (.iload_n 3, 1) := by decide +kernel
theorem dX4_scan_48 : decode cX4_scan 48 = .ok (.iconst 1, 1) := by decide +kernel
theorem dX4_scan_49 : decode cX4_scan 49 = .ok (.if_icmp .ne 15, 3) := by decide +kernel
theorem dX4_scan_52 : decode cX4_scan 52 = .ok (.aload_n 0, 1) := by decide +kernel
theorem dX4_scan_53 : decode cX4_scan 53 = .ok (.getfield 10, 3) := by decide +kernel
theorem dX4_scan_56 : decode cX4_scan 56 = .ok (.iload_n 1, 1) := by decide +kernel
theorem dX4_scan_57 : decode cX4_scan 57 = .ok (.iload_n 2, 1) := by decide +kernel
theorem dX4_scan_58 : decode cX4_scan 58 = .ok (.invokevirtual 102, 3) := by decide +kernel
theorem dX4_scan_61 : decode cX4_scan 61 = .ok (.goto 12, 3) := by decide +kernel
theorem dX4_scan_64 : decode cX4_scan 64 = .ok (.aload_n 0, 1) := by decide +kernel
theorem dX4_scan_65 : decode cX4_scan 65 = .ok (.getfield 10, 3) := by decide +kernel
theorem dX4_scan_68 : decode cX4_scan 68 = .ok (.iload_n 1, 1) := by decide +kernel
theorem dX4_scan_69 : decode cX4_scan 69 = .ok (.iload_n 2, 1) := by decide +kernel
theorem dX4_scan_70 : decode cX4_scan 70 = .ok (.invokevirtual 105, 3) := by decide +kernel
theorem dX4_scan_73 : decode cX4_scan 73 = .ok (.ireturn, 1) := by decide +kernel
theorem dX4_index_0 : decode cX4_index 0 = .ok (.iload_n 1, 1) := by decide +kernel
theorem dX4_index_1 : decode cX4_index 1 = .ok (.aload_n 0, 1) := by decide +kernel
theorem dX4_index_2 : decode cX4_index 2 = .ok (.getfield 10, 3) := by decide +kernel
theorem dX4_index_5 : decode cX4_index 5 = .ok (.getfield 70, 3) := by decide +kernel
theorem dX4_index_8 : decode cX4_index 8 = .ok (.iconst 4, 1) := by decide +kernel
theorem dX4_index_9 : decode cX4_index 9 = .ok (.idiv, 1) := by decide +kernel
theorem dX4_index_10 : decode cX4_index 10 = .ok (.iconst 1, 1) := by decide +kernel
theorem dX4_index_11 : decode cX4_index 11 = .ok (.isub, 1) := by decide +kernel
theorem dX4_index_12 : decode cX4_index 12 = .ok (.invokestatic 77, 3) := by decide +kernel
theorem dX4_index_15 : decode cX4_index 15 = .ok (.ifCond .eq 14, 3) := by decide +kernel
theorem dX4_index_18 : decode cX4_index 18 = .ok (.aload_n 0, 1) := by decide +kernel
theorem dX4_index_19 : decode cX4_index 19 = .ok (.getfield 10, 3) := by decide +kernel
theorem dX4_index_22 : decode cX4_index 22 = .ok (.iload_n 1, 1) := by decide +kernel
theorem dX4_index_23 : decode cX4_index 23 = .ok (.invokevirtual 108, 3) := by decide +kernel
theorem dX4_index_26 : decode cX4_index 26 = .ok (.goto 9, 3) := by decide +kernel
theorem dX4_index_29 : decode cX4_index 29 = .ok (.aload_n 0, 1) := by decide +kernel
theorem dX4_index_30 : decode cX4_index 30 = .ok (.bipush (-2), 2) := by decide +kernel
theorem dX4_index_32 : decode cX4_index 32 = .ok (.invokevirtual 81, 3) := by decide +kernel
theorem dX4_index_35 : decode cX4_index 35 = .ok (.ireturn, 1) := by decide +kernel
theorem dX4_window_0 : decode cX4_window 0 = .ok (.iload_n 1, 1) := by decide +kernel
theorem dX4_window_1 : decode cX4_window 1 = .ok (.aload_n 0, 1) := by decide +kernel
theorem dX4_window_2 : decode cX4_window 2 = .ok (.getfield 10, 3) := by decide +kernel
theorem dX4_window_5 : decode cX4_window 5 = .ok (.invokevirtual 111, 3) := by decide +kernel
theorem dX4_window_8 : decode cX4_window 8 = .ok (.invokestatic 77, 3) := by decide +kernel
theorem dX4_window_11 : decode cX4_window 11 = .ok (.ifCond .eq 11, 3) := by decide +kernel
theorem dX4_window_14 : decode cX4_window 14 = .ok (.iload_n 3, 1) := by decide +kernel
theorem dX4_window_15 : decode cX4_window 15 = .ok (.iconst 2, 1) := by decide +kernel
theorem dX4_window_16 : decode cX4_window 16 = .ok (.invokestatic 77, 3) := by decide +kernel
theorem dX4_window_19 : decode cX4_window 19 = .ok (.ifCond .ne 10, 3) := by decide +kernel
theorem dX4_window_22 : decode cX4_window 22 = .ok (.aload_n 0, 1) := by decide +kernel
theorem dX4_window_23 : decode cX4_window 23 = .ok (.bipush (-2), 2) := by decide +kernel
theorem dX4_window_25 : decode cX4_window 25 = .ok (.invokevirtual 81, 3) := by decide +kernel
theorem dX4_window_28 : decode cX4_window 28 = .ok (.ireturn, 1) := by decide +kernel
theorem dX4_window_29 : decode cX4_window 29 = .ok (.iload_n 1, 1) := by decide +kernel
theorem dX4_window_30 : decode cX4_window 30 = .ok (.invokestatic 115, 3) := by decide +kernel
theorem dX4_window_33 : decode cX4_window 33 = .ok (.istore 4, 2) := by decide +kernel
theorem dX4_window_35 : decode cX4_window 35 = .ok (.iload_n 2, 1) := by decide +kernel
theorem dX4_window_36 : decode cX4_window 36 = .ok (.aload_n 0, 1) := by decide +kernel
theorem dX4_window_37 : decode cX4_window 37 = .ok (.getfield 10, 3) := by decide +kernel
theorem dX4_window_40 : decode cX4_window 40 = .ok (.getfield 70, 3) := by decide +kernel
theorem dX4_window_43 : decode cX4_window 43 = .ok (.iload 4, 2) := by decide +kernel
theorem dX4_window_45 : decode cX4_window 45 = .ok (.idiv, 1) := by decide +kernel
theorem dX4_window_46 : decode cX4_window 46 = .ok (.iconst 1, 1) := by decide +kernel
theorem dX4_window_47 : decode cX4_window 47 = .ok (.isub, 1) := by decide +kernel
theorem dX4_window_48 : decode cX4_window 48 = .ok (.invokestatic 77, 3) := by decide +kernel
theorem dX4_window_51 : decode cX4_window 51 = .ok (.ifCond .ne 10, 3) := by decide +kernel
theorem dX4_window_54 : decode cX4_window 54 = .ok (.aload_n 0, 1) := by decide +kernel
theorem dX4_window_55 : decode cX4_window 55 = .ok (.bipush (-2), 2) := by decide +kernel
theorem dX4_window_57 : decode cX4_window 57 = .ok (.invokevirtual 81, 3) := by decide +kernel
theorem dX4_window_60 : decode cX4_window 60 = .ok (.ireturn, 1) := by decide +kernel
theorem dX4_window_61 : decode cX4_window 61 = .ok (.iload_n 3, 1) := by decide +kernel
theorem dX4_window_62 : decode cX4_window 62 = .ok (.ifCond .ne 17, 3) := by decide +kernel
theorem dX4_window_65 : decode cX4_window 65 = .ok (.aload_n 0, 1) := by decide +kernel
theorem dX4_window_66 : decode cX4_window 66 = .ok (.getfield 10, 3) := by decide +kernel
theorem dX4_window_69 : decode cX4_window 69 = .ok (.iload_n 2, 1) := by decide +kernel
theorem dX4_window_70 : decode cX4_window 70 = .ok (.iload 4, 2) := by decide +kernel
theorem dX4_window_72 : decode cX4_window 72 = .ok (.imul, 1) := by decide +kernel
theorem dX4_window_73 : decode cX4_window 73 = .ok (.iload 4, 2) := by decide +kernel
theorem dX4_window_75 : decode cX4_window 75 = .ok (.invokevirtual 118, 3) := by decide +kernel
theorem dX4_window_78 : decode cX4_window 78 = .ok (.ireturn, 1) := by decide +kernel
theorem dX4_window_79 : decode cX4_window 79 = .ok (.iload_n 3, 1) := by decide +kernel
theorem dX4_window_80 : decode cX4_window 80 = .ok (.iconst 1, 1) := by decide +kernel
theorem dX4_window_81 : decode cX4_window 81 = .ok (.if_icmp .ne 14, 3) := by decide +kernel
theorem dX4_window_84 : decode cX4_window 84 = .ok (.aload_n 0, 1) := by decide +kernel
theorem dX4_window_85 : decode cX4_window 85 = .ok (.getfield 10, 3) := by decide +kernel
theorem dX4_window_88 : decode cX4_window 88 = .ok (.iload_n 1, 1) := by decide +kernel
theorem dX4_window_89 : decode cX4_window 89 = .ok (.invokevirtual 121, 3) := by decide +kernel
theorem dX4_window_92 : decode cX4_window 92 = .ok (.goto 11, 3) := by decide +kernel
theorem dX4_window_95 : decode cX4_window 95 = .ok (.aload_n 0, 1) := by decide +kernel
theorem dX4_window_96 : decode cX4_window 96 = .ok (.getfield 10, 3) := by decide +kernel
theorem dX4_window_99 : decode cX4_window 99 = .ok (.iload_n 1, 1) := by decide +kernel
theorem dX4_window_100 : decode cX4_window 100 = .ok (.invokevirtual 124, 3) := by decide +kernel
theorem dX4_window_103 : decode cX4_window 103 = .ok (.ireturn, 1) := by decide +kernel
theorem dX4_count_0 : decode cX4_count 0 = .ok (.iload_n 1, 1) := by decide +kernel
theorem dX4_count_1 : decode cX4_count 1 = .ok (.bipush 6, 2) := by decide +kernel
theorem dX4_count_3 : decode cX4_count 3 = .ok (.invokestatic 77, 3) := by decide +kernel
theorem dX4_count_6 : decode cX4_count 6 = .ok (.ifCond .eq 11, 3) := by decide +kernel
theorem dX4_count_9 : decode cX4_count 9 = .ok (.aload_n 0, 1) := by decide +kernel
theorem dX4_count_10 : decode cX4_count 10 = .ok (.iload_n 1, 1) := by decide +kernel
theorem dX4_count_11 : decode cX4_count 11 = .ok (.invokevirtual 127, 3) := by decide +kernel
theorem dX4_count_14 : decode cX4_count 14 = .ok (.goto 9, 3) := by decide +kernel
theorem dX4_count_17 : decode cX4_count 17 = .ok (.aload_n 0, 1) := by decide +kernel
theorem dX4_count_18 : decode cX4_count 18 = .ok (.bipush (-2), 2) := by decide +kernel
theorem dX4_count_20 : decode cX4_count 20 = .ok (.invokevirtual 81, 3) := by decide +kernel
theorem dX4_count_23 : decode cX4_count 23 = .ok (.ireturn, 1) := by decide +kernel
theorem dX4_log_0 : decode cX4_log 0 = .ok (.iload_n 1, 1) := by decide +kernel
theorem dX4_log_1 : decode cX4_log 1 = .ok (.ifCond .lt 11, 3) := by decide +kernel
theorem dX4_log_4 : decode cX4_log 4 = .ok (.iload_n 2, 1) := by decide +kernel
theorem dX4_log_5 : decode cX4_log 5 = .ok (.iconst 2, 1) := by decide +kernel
theorem dX4_log_6 : decode cX4_log 6 = .ok (.invokestatic 77, 3) := by decide +kernel
theorem dX4_log_9 : decode cX4_log 9 = .ok (.ifCond .ne 10, 3) := by decide +kernel
theorem dX4_log_12 : decode cX4_log 12 = .ok (.aload_n 0, 1) := by decide +kernel
theorem dX4_log_13 : decode cX4_log 13 = .ok (.bipush (-2), 2) := by decide +kernel
theorem dX4_log_15 : decode cX4_log 15 = .ok (.invokevirtual 81, 3) := by decide +kernel
theorem dX4_log_18 : decode cX4_log 18 = .ok (.ireturn, 1) := by decide +kernel
theorem dX4_log_19 : decode cX4_log 19 = .ok (.aload_n 0, 1) := by decide +kernel
theorem dX4_log_20 : decode cX4_log 20 = .ok (.getfield 10, 3) := by decide +kernel
theorem dX4_log_23 : decode cX4_log 23 = .ok (.iload_n 1, 1) := by decide +kernel
theorem dX4_log_24 : decode cX4_log 24 = .ok (.iload_n 2, 1) := by decide +kernel
theorem dX4_log_25 : decode cX4_log 25 = .ok (.invokevirtual 130, 3) := by decide +kernel
theorem dX4_log_28 : decode cX4_log 28 = .ok (.ireturn, 1) := by decide +kernel
theorem dX4_type_0 : decode cX4_type 0 = .ok (.iload_n 1, 1) := by decide +kernel
theorem dX4_type_1 : decode cX4_type 1 = .ok (.bipush 127, 2) := by decide +kernel
theorem dX4_type_3 : decode cX4_type 3 = .ok (.invokestatic 77, 3) := by decide +kernel
theorem dX4_type_6 : decode cX4_type 6 = .ok (.ifCond .ne 10, 3) := by decide +kernel
theorem dX4_type_9 : decode cX4_type 9 = .ok (.aload_n 0, 1) := by decide +kernel
theorem dX4_type_10 : decode cX4_type 10 = .ok (.bipush (-2), 2) := by decide +kernel
theorem dX4_type_12 : decode cX4_type 12 = .ok (.invokevirtual 81, 3) := by decide +kernel
theorem dX4_type_15 : decode cX4_type 15 = .ok (.ireturn, 1) := by decide +kernel
theorem dX4_type_16 : decode cX4_type 16 = .ok (.aload_n 0, 1) := by decide +kernel
theorem dX4_type_17 : decode cX4_type 17 = .ok (.getfield 41, 3) := by decide +kernel
theorem dX4_type_20 : decode cX4_type 20 = .ok (.aload_n 0, 1) := by decide +kernel
theorem dX4_type_21 : decode cX4_type 21 = .ok (.getfield 37, 3) := by decide +kernel
theorem dX4_type_24 : decode cX4_type 24 = .ok (.arraylength, 1) := by decide +kernel
theorem dX4_type_25 : decode cX4_type 25 = .ok (.if_icmp .lt 10, 3) := by decide +kernel
theorem dX4_type_28 : decode cX4_type 28 = .ok (.aload_n 0, 1) := by decide +kernel
theorem dX4_type_29 : decode cX4_type 29 = .ok (.bipush (-4), 2) := by decide +kernel
theorem dX4_type_31 : decode cX4_type 31 = .ok (.invokevirtual 81, 3) := by decide +kernel
theorem dX4_type_34 : decode cX4_type 34 = .ok (.ireturn, 1) := by decide +kernel
theorem dX4_type_35 : decode cX4_type 35 = .ok (.aload_n 0, 1) := by decide +kernel
theorem dX4_type_36 : decode cX4_type 36 = .ok (.getfield 37, 3) := by decide +kernel
theorem dX4_type_39 : decode cX4_type 39 = .ok (.aload_n 0, 1) := by decide +kernel
theorem dX4_type_40 : decode cX4_type 40 = .ok (.getfield 41, 3) := by decide +kernel
theorem dX4_type_43 : decode cX4_type 43 = .ok (.iload_n 1, 1) := by decide +kernel
theorem dX4_type_44 : decode cX4_type 44 = .ok (.iastore, 1) := by decide +kernel
theorem dX4_type_45 : decode cX4_type 45 = .ok (.aload_n 0, 1) := by decide +kernel
theorem dX4_type_46 : decode cX4_type 46 = .ok (.dup, 1) := by decide +kernel
theorem dX4_type_47 : decode cX4_type 47 = .ok (.getfield 41, 3) := by decide +kernel
theorem dX4_type_50 : decode cX4_type 50 = .ok (.iconst 1, 1) := by decide +kernel
theorem dX4_type_51 : decode cX4_type 51 = .ok (.iadd, 1) := by decide +kernel
theorem dX4_type_52 : decode cX4_type 52 = .ok (.putfield 41, 3) := by decide +kernel
theorem dX4_type_55 : decode cX4_type 55 = .ok (.aload_n 0, 1) := by decide +kernel
theorem dX4_type_56 : decode cX4_type 56 = .ok (.getfield 41, 3) := by decide +kernel
theorem dX4_type_59 : decode cX4_type 59 = .ok (.ireturn, 1) := by decide +kernel
theorem dX4_clear_0 : decode cX4_clear 0 = .ok (.aload_n 0, 1) := by decide +kernel
theorem dX4_clear_1 : decode cX4_clear 1 = .ok (.getfield 41, 3) := by decide +kernel
theorem dX4_clear_4 : decode cX4_clear 4 = .ok (.istore_n 1, 1) := by decide +kernel
theorem dX4_clear_5 : decode cX4_clear 5 = .ok (.aload_n 0, 1) := by decide +kernel
theorem dX4_clear_6 : decode cX4_clear 6 = .ok (.iconst 0, 1) := by decide +kernel
theorem dX4_clear_7 : decode cX4_clear 7 = .ok (.putfield 41, 3) := by decide +kernel
theorem dX4_clear_10 : decode cX4_clear 10 = .ok (.iload_n 1, 1) := by decide +kernel
theorem dX4_clear_11 : decode cX4_clear 11 = .ok (.ireturn, 1) := by decide +kernel
theorem dX4_does_0 : decode cX4_does 0 = .ok (.aload_n 0, 1) := by decide +kernel
theorem dX4_does_1 : decode cX4_does 1 = .ok (.invokevirtual 133, 3) := by decide +kernel
theorem dX4_does_4 : decode cX4_does 4 = .ok (.istore_n 1, 1) := by decide +kernel
theorem dX4_does_5 : decode cX4_does 5 = .ok (.iload_n 1, 1) := by decide +kernel
theorem dX4_does_6 : decode cX4_does 6 = .ok (.iconst (-1), 1) := by decide +kernel
theorem dX4_does_7 : decode cX4_does 7 = .ok (.if_icmp .eq 8, 3) := by decide +kernel
theorem dX4_does_10 : decode cX4_does 10 = .ok (.bipush (-10), 2) := by decide +kernel
theorem dX4_does_12 : decode cX4_does 12 = .ok (.iload_n 1, 1) := by decide +kernel
theorem dX4_does_13 : decode cX4_does 13 = .ok (.isub, 1) := by decide +kernel
theorem dX4_does_14 : decode cX4_does 14 = .ok (.ireturn, 1) := by decide +kernel
theorem dX4_does_15 : decode cX4_does 15 = .ok (.aload_n 0, 1) := by decide +kernel
theorem dX4_does_16 : decode cX4_does 16 = .ok (.getfield 26, 3) := by decide +kernel
theorem dX4_does_19 : decode cX4_does 19 = .ok (.aload_n 0, 1) := by decide +kernel
theorem dX4_does_20 : decode cX4_does 20 = .ok (.getfield 10, 3) := by decide +kernel
theorem dX4_does_23 : decode cX4_does 23 = .ok (.invokevirtual 136, 3) := by decide +kernel
theorem dX4_does_26 : decode cX4_does 26 = .ok (.iconst 0, 1) := by decide +kernel
theorem dX4_does_27 : decode cX4_does 27 = .ok (.istore_n 2, 1) := by decide +kernel
theorem dX4_does_28 : decode cX4_does 28 = .ok (.aload_n 0, 1) := by decide +kernel
theorem dX4_does_29 : decode cX4_does 29 = .ok (.getfield 33, 3) := by decide +kernel
theorem dX4_does_32 : decode cX4_does 32 = .ok (.invokevirtual 139, 3) := by decide +kernel
theorem dX4_does_35 : decode cX4_does 35 = .ok (.iconst 0, 1) := by decide +kernel
theorem dX4_does_36 : decode cX4_does 36 = .ok (.istore_n 3, 1) := by decide +kernel
theorem dX4_does_37 : decode cX4_does 37 = .ok (.iload_n 3, 1) := by decide +kernel
theorem dX4_does_38 : decode cX4_does 38 = .ok (.aload_n 0, 1) := by decide +kernel
theorem dX4_does_39 : decode cX4_does 39 = .ok (.getfield 41, 3) := by decide +kernel
theorem dX4_does_42 : decode cX4_does 42 = .ok (.if_icmp .ge 111, 3) := by decide +kernel
theorem dX4_does_45 : decode cX4_does 45 = .ok (.iload_n 3, 1) := by decide +kernel
theorem dX4_does_46 : decode cX4_does 46 = .ok (.aload_n 0, 1) := by decide +kernel
theorem dX4_does_47 : decode cX4_does 47 = .ok (.getfield 37, 3) := by decide +kernel
theorem dX4_does_50 : decode cX4_does 50 = .ok (.arraylength, 1) := by decide +kernel
theorem dX4_does_51 : decode cX4_does 51 = .ok (.if_icmp .ge 102, 3) := by decide +kernel
theorem dX4_does_54 : decode cX4_does 54 = .ok (.aload_n 0, 1) := by decide +kernel
theorem dX4_does_55 : decode cX4_does 55 = .ok (.getfield 33, 3) := by decide +kernel
theorem dX4_does_58 : decode cX4_does 58 = .ok (.aload_n 0, 1) := by decide +kernel
theorem dX4_does_59 : decode cX4_does 59 = .ok (.getfield 37, 3) := by decide +kernel
theorem dX4_does_62 : decode cX4_does 62 = .ok (.iload_n 3, 1) := by decide +kernel
theorem dX4_does_63 : decode cX4_does 63 = .ok (.iaload, 1) := by decide +kernel
theorem dX4_does_64 : decode cX4_does 64 = .ok (.invokevirtual 142, 3) := by decide +kernel
theorem dX4_does_67 : decode cX4_does 67 = .ok (.iconst 2, 1) := by decide +kernel
theorem dX4_does_68 : decode cX4_does 68 = .ok (.if_icmp .eq 6, 3) := by decide +kernel
theorem dX4_does_71 : decode cX4_does 71 = .ok (.goto 76, 3) := by decide +kernel
theorem dX4_does_74 : decode cX4_does 74 = .ok (.aload_n 0, 1) := by decide +kernel
theorem dX4_does_75 : decode cX4_does 75 = .ok (.aload_n 0, 1) := by decide +kernel
theorem dX4_does_76 : decode cX4_does 76 = .ok (.getfield 33, 3) := by decide +kernel
theorem dX4_does_79 : decode cX4_does 79 = .ok (.getfield 145, 3) := by decide +kernel
theorem dX4_does_82 : decode cX4_does 82 = .ok (.aload_n 0, 1) := by decide +kernel
theorem dX4_does_83 : decode cX4_does 83 = .ok (.getfield 33, 3) := by decide +kernel
theorem dX4_does_86 : decode cX4_does 86 = .ok (.getfield 148, 3) := by decide +kernel
theorem dX4_does_89 : decode cX4_does 89 = .ok (.aload_n 0, 1) := by decide +kernel
theorem dX4_does_90 : decode cX4_does 90 = .ok (.getfield 33, 3) := by decide +kernel
theorem dX4_does_93 : decode cX4_does 93 = .ok (.getfield 151, 3) := by decide +kernel
theorem dX4_does_96 : decode cX4_does 96 = .ok (.invokevirtual 154, 3) := by decide +kernel
theorem dX4_does_99 : decode cX4_does 99 = .ok (.ifCond .eq 20, 3) := by decide +kernel
theorem dX4_does_102 : decode cX4_does 102 = .ok (.aload_n 0, 1) := by decide +kernel
theorem dX4_does_103 : decode cX4_does 103 = .ok (.getfield 26, 3) := by decide +kernel
theorem dX4_does_106 : decode cX4_does 106 = .ok (.aload_n 0, 1) := by decide +kernel
theorem dX4_does_107 : decode cX4_does 107 = .ok (.getfield 10, 3) := by decide +kernel
theorem dX4_does_110 : decode cX4_does 110 = .ok (.invokevirtual 157, 3) := by decide +kernel
theorem dX4_does_113 : decode cX4_does 113 = .ok (.sipush (-1000), 3) := by decide +kernel
theorem dX4_does_116 : decode cX4_does 116 = .ok (.iload_n 2, 1) := by decide +kernel
theorem dX4_does_117 : decode cX4_does 117 = .ok (.isub, 1) := by decide +kernel
theorem dX4_does_118 : decode cX4_does 118 = .ok (.ireturn, 1) := by decide +kernel
theorem dX4_does_119 : decode cX4_does 119 = .ok (.aload_n 0, 1) := by decide +kernel
theorem dX4_does_120 : decode cX4_does 120 = .ok (.aload_n 0, 1) := by decide +kernel
theorem dX4_does_121 : decode cX4_does 121 = .ok (.getfield 33, 3) := by decide +kernel
theorem dX4_does_124 : decode cX4_does 124 = .ok (.getfield 145, 3) := by decide +kernel
theorem dX4_does_127 : decode cX4_does 127 = .ok (.aload_n 0, 1) := by decide +kernel
theorem dX4_does_128 : decode cX4_does 128 = .ok (.getfield 33, 3) := by decide +kernel
theorem dX4_does_131 : decode cX4_does 131 = .ok (.getfield 148, 3) := by decide +kernel
theorem dX4_does_134 : decode cX4_does 134 = .ok (.aload_n 0, 1) := by decide +kernel
theorem dX4_does_135 : decode cX4_does 135 = .ok (.getfield 33, 3) := by decide +kernel
theorem dX4_does_138 : decode cX4_does 138 = .ok (.getfield 151, 3) := by decide +kernel
theorem dX4_does_141 : decode cX4_does 141 = .ok (.invokevirtual 160, 3) := by decide +kernel
theorem dX4_does_144 : decode cX4_does 144 = .ok (.iinc 2 1, 3) := by decide +kernel
theorem dX4_does_147 : decode cX4_does 147 = .ok (.iinc 3 1, 3) := by decide +kernel
theorem dX4_does_150 : decode cX4_does 150 = .ok (.goto (-113), 3) := by decide +kernel
theorem dX4_does_153 : decode cX4_does 153 = .ok (.aload_n 0, 1) := by decide +kernel
theorem dX4_does_154 : decode cX4_does 154 = .ok (.getfield 26, 3) := by decide +kernel
theorem dX4_does_157 : decode cX4_does 157 = .ok (.invokevirtual 164, 3) := by decide +kernel
theorem dX4_does_160 : decode cX4_does 160 = .ok (.iload_n 2, 1) := by decide +kernel
theorem dX4_does_161 : decode cX4_does 161 = .ok (.ireturn, 1) := by decide +kernel
theorem dX4_back_0 : decode cX4_back 0 = .ok (.aload_n 0, 1) := by decide +kernel
theorem dX4_back_1 : decode cX4_back 1 = .ok (.getfield 26, 3) := by decide +kernel
theorem dX4_back_4 : decode cX4_back 4 = .ok (.aload_n 0, 1) := by decide +kernel
theorem dX4_back_5 : decode cX4_back 5 = .ok (.getfield 10, 3) := by decide +kernel
theorem dX4_back_8 : decode cX4_back 8 = .ok (.invokevirtual 167, 3) := by decide +kernel
theorem dX4_back_11 : decode cX4_back 11 = .ok (.ifCond .eq 13, 3) := by decide +kernel
theorem dX4_back_14 : decode cX4_back 14 = .ok (.aload_n 0, 1) := by decide +kernel
theorem dX4_back_15 : decode cX4_back 15 = .ok (.getfield 26, 3) := by decide +kernel
theorem dX4_back_18 : decode cX4_back 18 = .ok (.getfield 171, 3) := by decide +kernel
theorem dX4_back_21 : decode cX4_back 21 = .ok (.goto 9, 3) := by decide +kernel
theorem dX4_back_24 : decode cX4_back 24 = .ok (.aload_n 0, 1) := by decide +kernel
theorem dX4_back_25 : decode cX4_back 25 = .ok (.bipush (-3), 2) := by decide +kernel
theorem dX4_back_27 : decode cX4_back 27 = .ok (.invokevirtual 81, 3) := by decide +kernel
theorem dX4_back_30 : decode cX4_back 30 = .ok (.ireturn, 1) := by decide +kernel
theorem dX4_told_0 : decode cX4_told 0 = .ok (.iload_n 1, 1) := by decide +kernel
theorem dX4_told_1 : decode cX4_told 1 = .ok (.iconst 4, 1) := by decide +kernel
theorem dX4_told_2 : decode cX4_told 2 = .ok (.invokestatic 77, 3) := by decide +kernel
theorem dX4_told_5 : decode cX4_told 5 = .ok (.ifCond .eq 11, 3) := by decide +kernel
theorem dX4_told_8 : decode cX4_told 8 = .ok (.aload_n 0, 1) := by decide +kernel
theorem dX4_told_9 : decode cX4_told 9 = .ok (.iload_n 1, 1) := by decide +kernel
theorem dX4_told_10 : decode cX4_told 10 = .ok (.invokevirtual 174, 3) := by decide +kernel
theorem dX4_told_13 : decode cX4_told 13 = .ok (.goto 9, 3) := by decide +kernel
theorem dX4_told_16 : decode cX4_told 16 = .ok (.aload_n 0, 1) := by decide +kernel
theorem dX4_told_17 : decode cX4_told 17 = .ok (.bipush (-2), 2) := by decide +kernel
theorem dX4_told_19 : decode cX4_told 19 = .ok (.invokevirtual 81, 3) := by decide +kernel
theorem dX4_told_22 : decode cX4_told 22 = .ok (.ireturn, 1) := by decide +kernel
theorem dX4_digest_0 : decode cX4_digest 0 = .ok (.ldc2_w 177, 3) := by decide +kernel
theorem dX4_digest_3 : decode cX4_digest 3 = .ok (.lstore_n 1, 1) := by decide +kernel
theorem dX4_digest_4 : decode cX4_digest 4 = .ok (.iconst 0, 1) := by decide +kernel
theorem dX4_digest_5 : decode cX4_digest 5 = .ok (.istore_n 3, 1) := by decide +kernel
theorem dX4_digest_6 : decode cX4_digest 6 = .ok (.iload_n 3, 1) := by decide +kernel
theorem dX4_digest_7 : decode cX4_digest 7 = .ok (.iconst 4, 1) := by decide +kernel
theorem dX4_digest_8 : decode cX4_digest 8 = .ok (.if_icmp .gt 22, 3) := by decide +kernel
theorem dX4_digest_11 : decode cX4_digest 11 = .ok (.ldc2_w 179, 3) := by decide +kernel
theorem dX4_digest_14 : decode cX4_digest 14 = .ok (.lload_n 1, 1) := by decide +kernel
theorem dX4_digest_15 : decode cX4_digest 15 = .ok (.lmul, 1) := by decide +kernel
theorem dX4_digest_16 : decode cX4_digest 16 = .ok (.aload_n 0, 1) := by decide +kernel
theorem dX4_digest_17 : decode cX4_digest 17 = .ok (.iload_n 3, 1) := by decide +kernel
theorem dX4_digest_18 : decode cX4_digest 18 = .ok (.invokevirtual 174, 3) := by decide +kernel
theorem dX4_digest_21 : decode cX4_digest 21 = .ok (.i2l, 1) := by decide +kernel
theorem dX4_digest_22 : decode cX4_digest 22 = .ok (.ladd, 1) := by decide +kernel
theorem dX4_digest_23 : decode cX4_digest 23 = .ok (.lstore_n 1, 1) := by decide +kernel
theorem dX4_digest_24 : decode cX4_digest 24 = .ok (.iinc 3 1, 3) := by decide +kernel
theorem dX4_digest_27 : decode cX4_digest 27 = .ok (.goto (-21), 3) := by decide +kernel
theorem dX4_digest_30 : decode cX4_digest 30 = .ok (.iconst 0, 1) := by decide +kernel
theorem dX4_digest_31 : decode cX4_digest 31 = .ok (.istore_n 3, 1) := by decide +kernel
theorem dX4_digest_32 : decode cX4_digest 32 = .ok (.iload_n 3, 1) := by decide +kernel
theorem dX4_digest_33 : decode cX4_digest 33 = .ok (.bipush 6, 2) := by decide +kernel
theorem dX4_digest_35 : decode cX4_digest 35 = .ok (.if_icmp .gt 22, 3) := by decide +kernel
theorem dX4_digest_38 : decode cX4_digest 38 = .ok (.ldc2_w 179, 3) := by decide +kernel
theorem dX4_digest_41 : decode cX4_digest 41 = .ok (.lload_n 1, 1) := by decide +kernel
theorem dX4_digest_42 : decode cX4_digest 42 = .ok (.lmul, 1) := by decide +kernel
theorem dX4_digest_43 : decode cX4_digest 43 = .ok (.aload_n 0, 1) := by decide +kernel
theorem dX4_digest_44 : decode cX4_digest 44 = .ok (.iload_n 3, 1) := by decide +kernel
theorem dX4_digest_45 : decode cX4_digest 45 = .ok (.invokevirtual 127, 3) := by decide +kernel
theorem dX4_digest_48 : decode cX4_digest 48 = .ok (.i2l, 1) := by decide +kernel
theorem dX4_digest_49 : decode cX4_digest 49 = .ok (.ladd, 1) := by decide +kernel
theorem dX4_digest_50 : decode cX4_digest 50 = .ok (.lstore_n 1, 1) := by decide +kernel
theorem dX4_digest_51 : decode cX4_digest 51 = .ok (.iinc 3 1, 3) := by decide +kernel
theorem dX4_digest_54 : decode cX4_digest 54 = .ok (.goto (-22), 3) := by decide +kernel
theorem dX4_digest_57 : decode cX4_digest 57 = .ok (.iconst 0, 1) := by decide +kernel
theorem dX4_digest_58 : decode cX4_digest 58 = .ok (.istore_n 3, 1) := by decide +kernel
theorem dX4_digest_59 : decode cX4_digest 59 = .ok (.iload_n 3, 1) := by decide +kernel
theorem dX4_digest_60 : decode cX4_digest 60 = .ok (.aload_n 0, 1) := by decide +kernel
theorem dX4_digest_61 : decode cX4_digest 61 = .ok (.getfield 10, 3) := by decide +kernel
theorem dX4_digest_64 : decode cX4_digest 64 = .ok (.getfield 70, 3) := by decide +kernel
theorem dX4_digest_67 : decode cX4_digest 67 = .ok (.if_icmp .ge 53, 3) := by decide +kernel
theorem dX4_digest_70 : decode cX4_digest 70 = .ok (.ldc2_w 179, 3) := by decide +kernel
theorem dX4_digest_73 : decode cX4_digest 73 = .ok (.lload_n 1, 1) := by decide +kernel
theorem dX4_digest_74 : decode cX4_digest 74 = .ok (.lmul, 1) := by decide +kernel
theorem dX4_digest_75 : decode cX4_digest 75 = .ok (.aload_n 0, 1) := by decide +kernel
theorem dX4_digest_76 : decode cX4_digest 76 = .ok (.getfield 10, 3) := by decide +kernel
theorem dX4_digest_79 : decode cX4_digest 79 = .ok (.iload_n 3, 1) := by decide +kernel
theorem dX4_digest_80 : decode cX4_digest 80 = .ok (.invokevirtual 90, 3) := by decide +kernel
theorem dX4_digest_83 : decode cX4_digest 83 = .ok (.i2l, 1) := by decide +kernel
theorem dX4_digest_84 : decode cX4_digest 84 = .ok (.ladd, 1) := by decide +kernel
theorem dX4_digest_85 : decode cX4_digest 85 = .ok (.lstore_n 1, 1) := by decide +kernel
theorem dX4_digest_86 : decode cX4_digest 86 = .ok (.aload_n 0, 1) := by decide +kernel
theorem dX4_digest_87 : decode cX4_digest 87 = .ok (.getfield 10, 3) := by decide +kernel
theorem dX4_digest_90 : decode cX4_digest 90 = .ok (.iload_n 3, 1) := by decide +kernel
theorem dX4_digest_91 : decode cX4_digest 91 = .ok (.invokevirtual 90, 3) := by decide +kernel
theorem dX4_digest_94 : decode cX4_digest 94 = .ok (.iconst (-1), 1) := by decide +kernel
theorem dX4_digest_95 : decode cX4_digest 95 = .ok (.if_icmp .eq 19, 3) := by decide +kernel
theorem dX4_digest_98 : decode cX4_digest 98 = .ok (.ldc2_w 179, 3) := by decide +kernel
theorem dX4_digest_101 : decode cX4_digest 101 = .ok (.lload_n 1, 1) := by decide +kernel
theorem dX4_digest_102 : decode cX4_digest 102 = .ok (.lmul, 1) := by decide +kernel
theorem dX4_digest_103 : decode cX4_digest 103 = .ok (.aload_n 0, 1) := by decide +kernel
theorem dX4_digest_104 : decode cX4_digest 104 = .ok (.getfield 10, 3) := by decide +kernel
theorem dX4_digest_107 : decode cX4_digest 107 = .ok (.iload_n 3, 1) := by decide +kernel
theorem dX4_digest_108 : decode cX4_digest 108 = .ok (.invokevirtual 87, 3) := by decide +kernel
theorem dX4_digest_111 : decode cX4_digest 111 = .ok (.i2l, 1) := by decide +kernel
theorem dX4_digest_112 : decode cX4_digest 112 = .ok (.ladd, 1) := by decide +kernel
theorem dX4_digest_113 : decode cX4_digest 113 = .ok (.lstore_n 1, 1) := by decide +kernel
theorem dX4_digest_114 : decode cX4_digest 114 = .ok (.iinc 3 1, 3) := by decide +kernel
theorem dX4_digest_117 : decode cX4_digest 117 = .ok (.goto (-58), 3) := by decide +kernel
theorem dX4_digest_120 : decode cX4_digest 120 = .ok (.iconst 0, 1) := by decide +kernel
theorem dX4_digest_121 : decode cX4_digest 121 = .ok (.istore_n 3, 1) := by decide +kernel
theorem dX4_digest_122 : decode cX4_digest 122 = .ok (.iload_n 3, 1) := by decide +kernel
theorem dX4_digest_123 : decode cX4_digest 123 = .ok (.aload_n 0, 1) := by decide +kernel
theorem dX4_digest_124 : decode cX4_digest 124 = .ok (.getfield 10, 3) := by decide +kernel
theorem dX4_digest_127 : decode cX4_digest 127 = .ok (.getfield 70, 3) := by decide +kernel
theorem dX4_digest_130 : decode cX4_digest 130 = .ok (.iconst 4, 1) := by decide +kernel
theorem dX4_digest_131 : decode cX4_digest 131 = .ok (.idiv, 1) := by decide +kernel
theorem dX4_digest_132 : decode cX4_digest 132 = .ok (.if_icmp .ge 25, 3) := by decide +kernel
theorem dX4_digest_135 : decode cX4_digest 135 = .ok (.ldc2_w 179, 3) := by decide +kernel
theorem dX4_digest_138 : decode cX4_digest 138 = .ok (.lload_n 1, 1) := by decide +kernel
theorem dX4_digest_139 : decode cX4_digest 139 = .ok (.lmul, 1) := by decide +kernel
theorem dX4_digest_140 : decode cX4_digest 140 = .ok (.aload_n 0, 1) := by decide +kernel
theorem dX4_digest_141 : decode cX4_digest 141 = .ok (.getfield 10, 3) := by decide +kernel
theorem dX4_digest_144 : decode cX4_digest 144 = .ok (.iload_n 3, 1) := by decide +kernel
theorem dX4_digest_145 : decode cX4_digest 145 = .ok (.invokevirtual 108, 3) := by decide +kernel
theorem dX4_digest_148 : decode cX4_digest 148 = .ok (.i2l, 1) := by decide +kernel
theorem dX4_digest_149 : decode cX4_digest 149 = .ok (.ladd, 1) := by decide +kernel
theorem dX4_digest_150 : decode cX4_digest 150 = .ok (.lstore_n 1, 1) := by decide +kernel
theorem dX4_digest_151 : decode cX4_digest 151 = .ok (.iinc 3 1, 3) := by decide +kernel
theorem dX4_digest_154 : decode cX4_digest 154 = .ok (.goto (-32), 3) := by decide +kernel
theorem dX4_digest_157 : decode cX4_digest 157 = .ok (.iconst 0, 1) := by decide +kernel
theorem dX4_digest_158 : decode cX4_digest 158 = .ok (.istore_n 3, 1) := by decide +kernel
theorem dX4_digest_159 : decode cX4_digest 159 = .ok (.iload_n 3, 1) := by decide +kernel
theorem dX4_digest_160 : decode cX4_digest 160 = .ok (.aload_n 0, 1) := by decide +kernel
theorem dX4_digest_161 : decode cX4_digest 161 = .ok (.getfield 10, 3) := by decide +kernel
theorem dX4_digest_164 : decode cX4_digest 164 = .ok (.getfield 181, 3) := by decide +kernel
theorem dX4_digest_167 : decode cX4_digest 167 = .ok (.if_icmp .ge 42, 3) := by decide +kernel
theorem dX4_digest_170 : decode cX4_digest 170 = .ok (.iconst 0, 1) := by decide +kernel
theorem dX4_digest_171 : decode cX4_digest 171 = .ok (.istore 4, 2) := by decide +kernel
theorem dX4_digest_173 : decode cX4_digest 173 = .ok (.iload 4, 2) := by decide +kernel
theorem dX4_digest_175 : decode cX4_digest 175 = .ok (.iconst 2, 1) := by decide +kernel
theorem dX4_digest_176 : decode cX4_digest 176 = .ok (.if_icmp .gt 27, 3) := by decide +kernel
theorem dX4_digest_179 : decode cX4_digest 179 = .ok (.ldc2_w 179, 3) := by decide +kernel
theorem dX4_digest_182 : decode cX4_digest 182 = .ok (.lload_n 1, 1) := by decide +kernel
theorem dX4_digest_183 : decode cX4_digest 183 = .ok (.lmul, 1) := by decide +kernel
theorem dX4_digest_184 : decode cX4_digest 184 = .ok (.aload_n 0, 1) := by decide +kernel
theorem dX4_digest_185 : decode cX4_digest 185 = .ok (.getfield 10, 3) := by decide +kernel
theorem dX4_digest_188 : decode cX4_digest 188 = .ok (.iload_n 3, 1) := by decide +kernel
theorem dX4_digest_189 : decode cX4_digest 189 = .ok (.iload 4, 2) := by decide +kernel
theorem dX4_digest_191 : decode cX4_digest 191 = .ok (.invokevirtual 130, 3) := by decide +kernel
theorem dX4_digest_194 : decode cX4_digest 194 = .ok (.i2l, 1) := by decide +kernel
theorem dX4_digest_195 : decode cX4_digest 195 = .ok (.ladd, 1) := by decide +kernel
theorem dX4_digest_196 : decode cX4_digest 196 = .ok (.lstore_n 1, 1) := by decide +kernel
theorem dX4_digest_197 : decode cX4_digest 197 = .ok (.iinc 4 1, 3) := by decide +kernel
theorem dX4_digest_200 : decode cX4_digest 200 = .ok (.goto (-27), 3) := by decide +kernel
theorem dX4_digest_203 : decode cX4_digest 203 = .ok (.iinc 3 1, 3) := by decide +kernel
theorem dX4_digest_206 : decode cX4_digest 206 = .ok (.goto (-47), 3) := by decide +kernel
theorem dX4_digest_209 : decode cX4_digest 209 = .ok (.lload_n 1, 1) := by decide +kernel
theorem dX4_digest_210 : decode cX4_digest 210 = .ok (.lreturn, 1) := by decide +kernel
theorem dX4_admt_0 : decode cX4_admt 0 = .ok (.aload_n 0, 1) := by decide +kernel
theorem dX4_admt_1 : decode cX4_admt 1 = .ok (.iload_n 1, 1) := by decide +kernel
theorem dX4_admt_2 : decode cX4_admt 2 = .ok (.iload_n 2, 1) := by decide +kernel
theorem dX4_admt_3 : decode cX4_admt 3 = .ok (.iload_n 3, 1) := by decide +kernel
theorem dX4_admt_4 : decode cX4_admt 4 = .ok (.invokevirtual 154, 3) := by decide +kernel
theorem dX4_admt_7 : decode cX4_admt 7 = .ok (.istore 4, 2) := by decide +kernel
theorem dX4_admt_9 : decode cX4_admt 9 = .ok (.iload 4, 2) := by decide +kernel
theorem dX4_admt_11 : decode cX4_admt 11 = .ok (.ifCond .eq 10, 3) := by decide +kernel
theorem dX4_admt_14 : decode cX4_admt 14 = .ok (.aload_n 0, 1) := by decide +kernel
theorem dX4_admt_15 : decode cX4_admt 15 = .ok (.iload 4, 2) := by decide +kernel
theorem dX4_admt_17 : decode cX4_admt 17 = .ok (.invokevirtual 81, 3) := by decide +kernel
theorem dX4_admt_20 : decode cX4_admt 20 = .ok (.ireturn, 1) := by decide +kernel
theorem dX4_admt_21 : decode cX4_admt 21 = .ok (.aload_n 0, 1) := by decide +kernel
theorem dX4_admt_22 : decode cX4_admt 22 = .ok (.getfield 26, 3) := by decide +kernel
theorem dX4_admt_25 : decode cX4_admt 25 = .ok (.aload_n 0, 1) := by decide +kernel
theorem dX4_admt_26 : decode cX4_admt 26 = .ok (.getfield 10, 3) := by decide +kernel
theorem dX4_admt_29 : decode cX4_admt 29 = .ok (.invokevirtual 66, 3) := by decide +kernel
theorem dX4_admt_32 : decode cX4_admt 32 = .ok (.iconst 0, 1) := by decide +kernel
theorem dX4_admt_33 : decode cX4_admt 33 = .ok (.ireturn, 1) := by decide +kernel
theorem dX4_refusalOf_0 : decode cX4_refusalOf 0 = .ok (.iload_n 1, 1) := by decide +kernel
theorem dX4_refusalOf_1 : decode cX4_refusalOf 1 = .ok (.lookupswitch 157 #[(100, 127), (109, 142), (112, 43), (116, 95)], 43) := by decide +kernel
theorem dX4_refusalOf_44 : decode cX4_refusalOf 44 = .ok (.iload_n 2, 1) := by decide +kernel
theorem dX4_refusalOf_45 : decode cX4_refusalOf 45 = .ok (.sipush 999, 3) := by decide +kernel
theorem dX4_refusalOf_48 : decode cX4_refusalOf 48 = .ok (.invokestatic 77, 3) := by decide +kernel
theorem dX4_refusalOf_51 : decode cX4_refusalOf 51 = .ok (.ifCond .eq 12, 3) := by decide +kernel
theorem dX4_refusalOf_54 : decode cX4_refusalOf 54 = .ok (.iload_n 3, 1) := by decide +kernel
theorem dX4_refusalOf_55 : decode cX4_refusalOf 55 = .ok (.bipush 99, 2) := by decide +kernel
theorem dX4_refusalOf_57 : decode cX4_refusalOf 57 = .ok (.invokestatic 77, 3) := by decide +kernel
theorem dX4_refusalOf_60 : decode cX4_refusalOf 60 = .ok (.ifCond .ne 6, 3) := by decide +kernel
theorem dX4_refusalOf_63 : decode cX4_refusalOf 63 = .ok (.bipush (-2), 2) := by decide +kernel
theorem dX4_refusalOf_65 : decode cX4_refusalOf 65 = .ok (.ireturn, 1) := by decide +kernel
theorem dX4_refusalOf_66 : decode cX4_refusalOf 66 = .ok (.aload_n 0, 1) := by decide +kernel
theorem dX4_refusalOf_67 : decode cX4_refusalOf 67 = .ok (.getfield 10, 3) := by decide +kernel
theorem dX4_refusalOf_70 : decode cX4_refusalOf 70 = .ok (.iload_n 2, 1) := by decide +kernel
theorem dX4_refusalOf_71 : decode cX4_refusalOf 71 = .ok (.invokevirtual 84, 3) := by decide +kernel
theorem dX4_refusalOf_74 : decode cX4_refusalOf 74 = .ok (.iconst (-1), 1) := by decide +kernel
theorem dX4_refusalOf_75 : decode cX4_refusalOf 75 = .ok (.if_icmp .ne 14, 3) := by decide +kernel
theorem dX4_refusalOf_78 : decode cX4_refusalOf 78 = .ok (.aload_n 0, 1) := by decide +kernel
theorem dX4_refusalOf_79 : decode cX4_refusalOf 79 = .ok (.getfield 10, 3) := by decide +kernel
theorem dX4_refusalOf_82 : decode cX4_refusalOf 82 = .ok (.iload_n 2, 1) := by decide +kernel
theorem dX4_refusalOf_83 : decode cX4_refusalOf 83 = .ok (.invokestatic 184, 3) := by decide +kernel
theorem dX4_refusalOf_86 : decode cX4_refusalOf 86 = .ok (.ifCond .eq 7, 3) := by decide +kernel
theorem dX4_refusalOf_89 : decode cX4_refusalOf 89 = .ok (.iconst 0, 1) := by decide +kernel
theorem dX4_refusalOf_90 : decode cX4_refusalOf 90 = .ok (.goto 5, 3) := by decide +kernel
theorem dX4_refusalOf_93 : decode cX4_refusalOf 93 = .ok (.bipush (-4), 2) := by decide +kernel
theorem dX4_refusalOf_95 : decode cX4_refusalOf 95 = .ok (.ireturn, 1) := by decide +kernel
theorem dX4_refusalOf_96 : decode cX4_refusalOf 96 = .ok (.iload_n 2, 1) := by decide +kernel
theorem dX4_refusalOf_97 : decode cX4_refusalOf 97 = .ok (.sipush 999, 3) := by decide +kernel
theorem dX4_refusalOf_100 : decode cX4_refusalOf 100 = .ok (.invokestatic 77, 3) := by decide +kernel
theorem dX4_refusalOf_103 : decode cX4_refusalOf 103 = .ok (.ifCond .ne 6, 3) := by decide +kernel
theorem dX4_refusalOf_106 : decode cX4_refusalOf 106 = .ok (.bipush (-2), 2) := by decide +kernel
theorem dX4_refusalOf_108 : decode cX4_refusalOf 108 = .ok (.ireturn, 1) := by decide +kernel
theorem dX4_refusalOf_109 : decode cX4_refusalOf 109 = .ok (.aload_n 0, 1) := by decide +kernel
theorem dX4_refusalOf_110 : decode cX4_refusalOf 110 = .ok (.getfield 10, 3) := by decide +kernel
theorem dX4_refusalOf_113 : decode cX4_refusalOf 113 = .ok (.iload_n 2, 1) := by decide +kernel
theorem dX4_refusalOf_114 : decode cX4_refusalOf 114 = .ok (.invokevirtual 84, 3) := by decide +kernel
theorem dX4_refusalOf_117 : decode cX4_refusalOf 117 = .ok (.iconst (-1), 1) := by decide +kernel
theorem dX4_refusalOf_118 : decode cX4_refusalOf 118 = .ok (.if_icmp .eq 7, 3) := by decide +kernel
theorem dX4_refusalOf_121 : decode cX4_refusalOf 121 = .ok (.iconst 0, 1) := by decide +kernel
theorem dX4_refusalOf_122 : decode cX4_refusalOf 122 = .ok (.goto 5, 3) := by decide +kernel
theorem dX4_refusalOf_125 : decode cX4_refusalOf 125 = .ok (.bipush (-3), 2) := by decide +kernel
theorem dX4_refusalOf_127 : decode cX4_refusalOf 127 = .ok (.ireturn, 1) := by decide +kernel
theorem dX4_refusalOf_128 : decode cX4_refusalOf 128 = .ok (.iload_n 2, 1) := by decide +kernel
theorem dX4_refusalOf_129 : decode cX4_refusalOf 129 = .ok (.iload_n 3, 1) := by decide +kernel
theorem dX4_refusalOf_130 : decode cX4_refusalOf 130 = .ok (.invokestatic 99, 3) := by decide +kernel
theorem dX4_refusalOf_133 : decode cX4_refusalOf 133 = .ok (.ifCond .eq 7, 3) := by decide +kernel
theorem dX4_refusalOf_136 : decode cX4_refusalOf 136 = .ok (.iconst 0, 1) := by decide +kernel
theorem dX4_refusalOf_137 : decode cX4_refusalOf 137 = .ok (.goto 5, 3) := by decide +kernel
theorem dX4_refusalOf_140 : decode cX4_refusalOf 140 = .ok (.bipush (-2), 2) := by decide +kernel
theorem dX4_refusalOf_142 : decode cX4_refusalOf 142 = .ok (.ireturn, 1) := by decide +kernel
theorem dX4_refusalOf_143 : decode cX4_refusalOf 143 = .ok (.iload_n 2, 1) := by decide +kernel
theorem dX4_refusalOf_144 : decode cX4_refusalOf 144 = .ok (.iconst 1, 1) := by decide +kernel
theorem dX4_refusalOf_145 : decode cX4_refusalOf 145 = .ok (.invokestatic 77, 3) := by decide +kernel
theorem dX4_refusalOf_148 : decode cX4_refusalOf 148 = .ok (.ifCond .eq 7, 3) := by decide +kernel
theorem dX4_refusalOf_151 : decode cX4_refusalOf 151 = .ok (.iconst 0, 1) := by decide +kernel
theorem dX4_refusalOf_152 : decode cX4_refusalOf 152 = .ok (.goto 5, 3) := by decide +kernel
theorem dX4_refusalOf_155 : decode cX4_refusalOf 155 = .ok (.bipush (-2), 2) := by decide +kernel
theorem dX4_refusalOf_157 : decode cX4_refusalOf 157 = .ok (.ireturn, 1) := by decide +kernel
theorem dX4_refusalOf_158 : decode cX4_refusalOf 158 = .ok (.bipush (-2), 2) := by decide +kernel
theorem dX4_refusalOf_160 : decode cX4_refusalOf 160 = .ok (.ireturn, 1) := by decide +kernel
theorem dX4_carryOut_0 : decode cX4_carryOut 0 = .ok (.iload_n 1, 1) := by decide +kernel
theorem dX4_carryOut_1 : decode cX4_carryOut 1 = .ok (.lookupswitch 64 #[(100, 54), (112, 35), (116, 45)], 35) := by decide +kernel
theorem dX4_carryOut_36 : decode cX4_carryOut 36 = .ok (.aload_n 0, 1) := by decide +kernel
theorem dX4_carryOut_37 : decode cX4_carryOut 37 = .ok (.iload_n 2, 1) := by decide +kernel
theorem dX4_carryOut_38 : decode cX4_carryOut 38 = .ok (.iload_n 3, 1) := by decide +kernel
theorem dX4_carryOut_39 : decode cX4_carryOut 39 = .ok (.invokevirtual 52, 3) := by decide +kernel
theorem dX4_carryOut_42 : decode cX4_carryOut 42 = .ok (.pop, 1) := by decide +kernel
theorem dX4_carryOut_43 : decode cX4_carryOut 43 = .ok (.goto 28, 3) := by decide +kernel
theorem dX4_carryOut_46 : decode cX4_carryOut 46 = .ok (.aload_n 0, 1) := by decide +kernel
theorem dX4_carryOut_47 : decode cX4_carryOut 47 = .ok (.iload_n 2, 1) := by decide +kernel
theorem dX4_carryOut_48 : decode cX4_carryOut 48 = .ok (.invokevirtual 56, 3) := by decide +kernel
theorem dX4_carryOut_51 : decode cX4_carryOut 51 = .ok (.pop, 1) := by decide +kernel
theorem dX4_carryOut_52 : decode cX4_carryOut 52 = .ok (.goto 19, 3) := by decide +kernel
theorem dX4_carryOut_55 : decode cX4_carryOut 55 = .ok (.aload_n 0, 1) := by decide +kernel
theorem dX4_carryOut_56 : decode cX4_carryOut 56 = .ok (.iload_n 2, 1) := by decide +kernel
theorem dX4_carryOut_57 : decode cX4_carryOut 57 = .ok (.iload_n 3, 1) := by decide +kernel
theorem dX4_carryOut_58 : decode cX4_carryOut 58 = .ok (.invokevirtual 60, 3) := by decide +kernel
theorem dX4_carryOut_61 : decode cX4_carryOut 61 = .ok (.pop, 1) := by decide +kernel
theorem dX4_carryOut_62 : decode cX4_carryOut 62 = .ok (.goto 9, 3) := by decide +kernel
theorem dX4_carryOut_65 : decode cX4_carryOut 65 = .ok (.aload_n 0, 1) := by decide +kernel
theorem dX4_carryOut_66 : decode cX4_carryOut 66 = .ok (.iload_n 2, 1) := by decide +kernel
theorem dX4_carryOut_67 : decode cX4_carryOut 67 = .ok (.invokevirtual 63, 3) := by decide +kernel
theorem dX4_carryOut_70 : decode cX4_carryOut 70 = .ok (.pop, 1) := by decide +kernel
theorem dX4_carryOut_71 : decode cX4_carryOut 71 = .ok (.return_, 1) := by decide +kernel
theorem dX4_turnMode_0 : decode cX4_turnMode 0 = .ok (.aload_n 0, 1) := by decide +kernel
theorem dX4_turnMode_1 : decode cX4_turnMode 1 = .ok (.getfield 10, 3) := by decide +kernel
theorem dX4_turnMode_4 : decode cX4_turnMode 4 = .ok (.getfield 188, 3) := by decide +kernel
theorem dX4_turnMode_7 : decode cX4_turnMode 7 = .ok (.istore_n 2, 1) := by decide +kernel
theorem dX4_turnMode_8 : decode cX4_turnMode 8 = .ok (.aload_n 0, 1) := by decide +kernel
theorem dX4_turnMode_9 : decode cX4_turnMode 9 = .ok (.getfield 10, 3) := by decide +kernel
theorem dX4_turnMode_12 : decode cX4_turnMode 12 = .ok (.iload_n 1, 1) := by decide +kernel
theorem dX4_turnMode_13 : decode cX4_turnMode 13 = .ok (.putfield 188, 3) := by decide +kernel
theorem dX4_turnMode_16 : decode cX4_turnMode 16 = .ok (.iload_n 2, 1) := by decide +kernel
theorem dX4_turnMode_17 : decode cX4_turnMode 17 = .ok (.ireturn, 1) := by decide +kernel
theorem dX4_putKey_0 : decode cX4_putKey 0 = .ok (.aload_n 0, 1) := by decide +kernel
theorem dX4_putKey_1 : decode cX4_putKey 1 = .ok (.getfield 10, 3) := by decide +kernel
theorem dX4_putKey_4 : decode cX4_putKey 4 = .ok (.iload_n 1, 1) := by decide +kernel
theorem dX4_putKey_5 : decode cX4_putKey 5 = .ok (.invokevirtual 84, 3) := by decide +kernel
theorem dX4_putKey_8 : decode cX4_putKey 8 = .ok (.istore_n 3, 1) := by decide +kernel
theorem dX4_putKey_9 : decode cX4_putKey 9 = .ok (.iload_n 3, 1) := by decide +kernel
theorem dX4_putKey_10 : decode cX4_putKey 10 = .ok (.iconst (-1), 1) := by decide +kernel
theorem dX4_putKey_11 : decode cX4_putKey 11 = .ok (.if_icmp .ne 17, 3) := by decide +kernel
theorem dX4_putKey_14 : decode cX4_putKey 14 = .ok (.aload_n 0, 1) := by decide +kernel
theorem dX4_putKey_15 : decode cX4_putKey 15 = .ok (.getfield 19, 3) := by decide +kernel
theorem dX4_putKey_18 : decode cX4_putKey 18 = .ok (.aload_n 0, 1) := by decide +kernel
theorem dX4_putKey_19 : decode cX4_putKey 19 = .ok (.getfield 10, 3) := by decide +kernel
theorem dX4_putKey_22 : decode cX4_putKey 22 = .ok (.iload_n 1, 1) := by decide +kernel
theorem dX4_putKey_23 : decode cX4_putKey 23 = .ok (.iload_n 2, 1) := by decide +kernel
theorem dX4_putKey_24 : decode cX4_putKey 24 = .ok (.invokevirtual 191, 3) := by decide +kernel
theorem dX4_putKey_27 : decode cX4_putKey 27 = .ok (.ireturn, 1) := by decide +kernel
theorem dX4_putKey_28 : decode cX4_putKey 28 = .ok (.aload_n 0, 1) := by decide +kernel
theorem dX4_putKey_29 : decode cX4_putKey 29 = .ok (.getfield 10, 3) := by decide +kernel
theorem dX4_putKey_32 : decode cX4_putKey 32 = .ok (.iload_n 3, 1) := by decide +kernel
theorem dX4_putKey_33 : decode cX4_putKey 33 = .ok (.invokevirtual 87, 3) := by decide +kernel
theorem dX4_putKey_36 : decode cX4_putKey 36 = .ok (.istore 4, 2) := by decide +kernel
theorem dX4_putKey_38 : decode cX4_putKey 38 = .ok (.aload_n 0, 1) := by decide +kernel
theorem dX4_putKey_39 : decode cX4_putKey 39 = .ok (.getfield 10, 3) := by decide +kernel
theorem dX4_putKey_42 : decode cX4_putKey 42 = .ok (.iload_n 3, 1) := by decide +kernel
theorem dX4_putKey_43 : decode cX4_putKey 43 = .ok (.iload_n 1, 1) := by decide +kernel
theorem dX4_putKey_44 : decode cX4_putKey 44 = .ok (.iload_n 2, 1) := by decide +kernel
theorem dX4_putKey_45 : decode cX4_putKey 45 = .ok (.invokevirtual 194, 3) := by decide +kernel
theorem dX4_putKey_48 : decode cX4_putKey 48 = .ok (.iload 4, 2) := by decide +kernel
theorem dX4_putKey_50 : decode cX4_putKey 50 = .ok (.bipush 100, 2) := by decide +kernel
theorem dX4_putKey_52 : decode cX4_putKey 52 = .ok (.iadd, 1) := by decide +kernel
theorem dX4_putKey_53 : decode cX4_putKey 53 = .ok (.ireturn, 1) := by decide +kernel
theorem dX4_takeKey_0 : decode cX4_takeKey 0 = .ok (.aload_n 0, 1) := by decide +kernel
theorem dX4_takeKey_1 : decode cX4_takeKey 1 = .ok (.getfield 19, 3) := by decide +kernel
theorem dX4_takeKey_4 : decode cX4_takeKey 4 = .ok (.aload_n 0, 1) := by decide +kernel
theorem dX4_takeKey_5 : decode cX4_takeKey 5 = .ok (.getfield 10, 3) := by decide +kernel
theorem dX4_takeKey_8 : decode cX4_takeKey 8 = .ok (.aload_n 0, 1) := by decide +kernel
theorem dX4_takeKey_9 : decode cX4_takeKey 9 = .ok (.getfield 10, 3) := by decide +kernel
theorem dX4_takeKey_12 : decode cX4_takeKey 12 = .ok (.iload_n 1, 1) := by decide +kernel
theorem dX4_takeKey_13 : decode cX4_takeKey 13 = .ok (.invokevirtual 84, 3) := by decide +kernel
theorem dX4_takeKey_16 : decode cX4_takeKey 16 = .ok (.invokevirtual 197, 3) := by decide +kernel
theorem dX4_takeKey_19 : decode cX4_takeKey 19 = .ok (.ireturn, 1) := by decide +kernel
theorem dX4_dropKeys_0 : decode cX4_dropKeys 0 = .ok (.aload_n 0, 1) := by decide +kernel
theorem dX4_dropKeys_1 : decode cX4_dropKeys 1 = .ok (.getfield 10, 3) := by decide +kernel
theorem dX4_dropKeys_4 : decode cX4_dropKeys 4 = .ok (.iload_n 1, 1) := by decide +kernel
theorem dX4_dropKeys_5 : decode cX4_dropKeys 5 = .ok (.invokevirtual 93, 3) := by decide +kernel
theorem dX4_dropKeys_8 : decode cX4_dropKeys 8 = .ok (.istore_n 3, 1) := by decide +kernel
theorem dX4_dropKeys_9 : decode cX4_dropKeys 9 = .ok (.aload_n 0, 1) := by decide +kernel
theorem dX4_dropKeys_10 : decode cX4_dropKeys 10 = .ok (.getfield 10, 3) := by decide +kernel
theorem dX4_dropKeys_13 : decode cX4_dropKeys 13 = .ok (.iload_n 2, 1) := by decide +kernel
theorem dX4_dropKeys_14 : decode cX4_dropKeys 14 = .ok (.iconst 1, 1) := by decide +kernel
theorem dX4_dropKeys_15 : decode cX4_dropKeys 15 = .ok (.iadd, 1) := by decide +kernel
theorem dX4_dropKeys_16 : decode cX4_dropKeys 16 = .ok (.invokevirtual 93, 3) := by decide +kernel
theorem dX4_dropKeys_19 : decode cX4_dropKeys 19 = .ok (.iload_n 3, 1) := by decide +kernel
theorem dX4_dropKeys_20 : decode cX4_dropKeys 20 = .ok (.isub, 1) := by decide +kernel
theorem dX4_dropKeys_21 : decode cX4_dropKeys 21 = .ok (.istore 4, 2) := by decide +kernel
theorem dX4_dropKeys_23 : decode cX4_dropKeys 23 = .ok (.iconst 0, 1) := by decide +kernel
theorem dX4_dropKeys_24 : decode cX4_dropKeys 24 = .ok (.istore 5, 2) := by decide +kernel
theorem dX4_dropKeys_26 : decode cX4_dropKeys 26 = .ok (.iload 5, 2) := by decide +kernel
theorem dX4_dropKeys_28 : decode cX4_dropKeys 28 = .ok (.iload 4, 2) := by decide +kernel
theorem dX4_dropKeys_30 : decode cX4_dropKeys 30 = .ok (.if_icmp .ge 29, 3) := by decide +kernel
theorem dX4_dropKeys_33 : decode cX4_dropKeys 33 = .ok (.aload_n 0, 1) := by decide +kernel
theorem dX4_dropKeys_34 : decode cX4_dropKeys 34 = .ok (.getfield 19, 3) := by decide +kernel
theorem dX4_dropKeys_37 : decode cX4_dropKeys 37 = .ok (.aload_n 0, 1) := by decide +kernel
theorem dX4_dropKeys_38 : decode cX4_dropKeys 38 = .ok (.getfield 10, 3) := by decide +kernel
theorem dX4_dropKeys_41 : decode cX4_dropKeys 41 = .ok (.aload_n 0, 1) := by decide +kernel
theorem dX4_dropKeys_42 : decode cX4_dropKeys 42 = .ok (.getfield 10, 3) := by decide +kernel
theorem dX4_dropKeys_45 : decode cX4_dropKeys 45 = .ok (.iload_n 3, 1) := by decide +kernel
theorem dX4_dropKeys_46 : decode cX4_dropKeys 46 = .ok (.invokevirtual 201, 3) := by decide +kernel
theorem dX4_dropKeys_49 : decode cX4_dropKeys 49 = .ok (.invokevirtual 197, 3) := by decide +kernel
theorem dX4_dropKeys_52 : decode cX4_dropKeys 52 = .ok (.pop, 1) := by decide +kernel
theorem dX4_dropKeys_53 : decode cX4_dropKeys 53 = .ok (.iinc 5 1, 3) := by decide +kernel
theorem dX4_dropKeys_56 : decode cX4_dropKeys 56 = .ok (.goto (-30), 3) := by decide +kernel
theorem dX4_dropKeys_59 : decode cX4_dropKeys 59 = .ok (.iload 4, 2) := by decide +kernel
theorem dX4_dropKeys_61 : decode cX4_dropKeys 61 = .ok (.ireturn, 1) := by decide +kernel
theorem dX4_refuse_0 : decode cX4_refuse 0 = .ok (.bipush (-2), 2) := by decide +kernel
theorem dX4_refuse_2 : decode cX4_refuse 2 = .ok (.iload_n 1, 1) := by decide +kernel
theorem dX4_refuse_3 : decode cX4_refuse 3 = .ok (.isub, 1) := by decide +kernel
theorem dX4_refuse_4 : decode cX4_refuse 4 = .ok (.istore_n 2, 1) := by decide +kernel
theorem dX4_refuse_5 : decode cX4_refuse 5 = .ok (.iload_n 2, 1) := by decide +kernel
theorem dX4_refuse_6 : decode cX4_refuse 6 = .ok (.aload_n 0, 1) := by decide +kernel
theorem dX4_refuse_7 : decode cX4_refuse 7 = .ok (.getfield 45, 3) := by decide +kernel
theorem dX4_refuse_10 : decode cX4_refuse 10 = .ok (.arraylength, 1) := by decide +kernel
theorem dX4_refuse_11 : decode cX4_refuse 11 = .ok (.iconst 1, 1) := by decide +kernel
theorem dX4_refuse_12 : decode cX4_refuse 12 = .ok (.isub, 1) := by decide +kernel
theorem dX4_refuse_13 : decode cX4_refuse 13 = .ok (.invokestatic 77, 3) := by decide +kernel
theorem dX4_refuse_16 : decode cX4_refuse 16 = .ok (.ifCond .eq 13, 3) := by decide +kernel
theorem dX4_refuse_19 : decode cX4_refuse 19 = .ok (.aload_n 0, 1) := by decide +kernel
theorem dX4_refuse_20 : decode cX4_refuse 20 = .ok (.getfield 45, 3) := by decide +kernel
theorem dX4_refuse_23 : decode cX4_refuse 23 = .ok (.iload_n 2, 1) := by decide +kernel
theorem dX4_refuse_24 : decode cX4_refuse 24 = .ok (.dup2, 1) := by decide +kernel
theorem dX4_refuse_25 : decode cX4_refuse 25 = .ok (.iaload, 1) := by decide +kernel
theorem dX4_refuse_26 : decode cX4_refuse 26 = .ok (.iconst 1, 1) := by decide +kernel
theorem dX4_refuse_27 : decode cX4_refuse 27 = .ok (.iadd, 1) := by decide +kernel
theorem dX4_refuse_28 : decode cX4_refuse 28 = .ok (.iastore, 1) := by decide +kernel
theorem dX4_refuse_29 : decode cX4_refuse 29 = .ok (.iload_n 1, 1) := by decide +kernel
theorem dX4_refuse_30 : decode cX4_refuse 30 = .ok (.ireturn, 1) := by decide +kernel
theorem dX4_counted_0 : decode cX4_counted 0 = .ok (.iload_n 1, 1) := by decide +kernel
theorem dX4_counted_1 : decode cX4_counted 1 = .ok (.tableswitch 95 0 5 #[39, 47, 63, 71, 79, 87], 39) := by decide +kernel
theorem dX4_counted_40 : decode cX4_counted 40 = .ok (.aload_n 0, 1) := by decide +kernel
theorem dX4_counted_41 : decode cX4_counted 41 = .ok (.getfield 10, 3) := by decide +kernel
theorem dX4_counted_44 : decode cX4_counted 44 = .ok (.getfield 70, 3) := by decide +kernel
theorem dX4_counted_47 : decode cX4_counted 47 = .ok (.ireturn, 1) := by decide +kernel
theorem dX4_counted_48 : decode cX4_counted 48 = .ok (.aload_n 0, 1) := by decide +kernel
theorem dX4_counted_49 : decode cX4_counted 49 = .ok (.getfield 10, 3) := by decide +kernel
theorem dX4_counted_52 : decode cX4_counted 52 = .ok (.iconst 0, 1) := by decide +kernel
theorem dX4_counted_53 : decode cX4_counted 53 = .ok (.aload_n 0, 1) := by decide +kernel
theorem dX4_counted_54 : decode cX4_counted 54 = .ok (.getfield 10, 3) := by decide +kernel
theorem dX4_counted_57 : decode cX4_counted 57 = .ok (.getfield 70, 3) := by decide +kernel
theorem dX4_counted_60 : decode cX4_counted 60 = .ok (.invokevirtual 118, 3) := by decide +kernel
theorem dX4_counted_63 : decode cX4_counted 63 = .ok (.ireturn, 1) := by decide +kernel
theorem dX4_counted_64 : decode cX4_counted 64 = .ok (.aload_n 0, 1) := by decide +kernel
theorem dX4_counted_65 : decode cX4_counted 65 = .ok (.getfield 10, 3) := by decide +kernel
theorem dX4_counted_68 : decode cX4_counted 68 = .ok (.getfield 188, 3) := by decide +kernel
theorem dX4_counted_71 : decode cX4_counted 71 = .ok (.ireturn, 1) := by decide +kernel
theorem dX4_counted_72 : decode cX4_counted 72 = .ok (.aload_n 0, 1) := by decide +kernel
theorem dX4_counted_73 : decode cX4_counted 73 = .ok (.getfield 10, 3) := by decide +kernel
theorem dX4_counted_76 : decode cX4_counted 76 = .ok (.getfield 204, 3) := by decide +kernel
theorem dX4_counted_79 : decode cX4_counted 79 = .ok (.ireturn, 1) := by decide +kernel
theorem dX4_counted_80 : decode cX4_counted 80 = .ok (.aload_n 0, 1) := by decide +kernel
theorem dX4_counted_81 : decode cX4_counted 81 = .ok (.getfield 10, 3) := by decide +kernel
theorem dX4_counted_84 : decode cX4_counted 84 = .ok (.getfield 207, 3) := by decide +kernel
theorem dX4_counted_87 : decode cX4_counted 87 = .ok (.ireturn, 1) := by decide +kernel
theorem dX4_counted_88 : decode cX4_counted 88 = .ok (.aload_n 0, 1) := by decide +kernel
theorem dX4_counted_89 : decode cX4_counted 89 = .ok (.getfield 10, 3) := by decide +kernel
theorem dX4_counted_92 : decode cX4_counted 92 = .ok (.getfield 210, 3) := by decide +kernel
theorem dX4_counted_95 : decode cX4_counted 95 = .ok (.ireturn, 1) := by decide +kernel
theorem dX4_counted_96 : decode cX4_counted 96 = .ok (.aload_n 0, 1) := by decide +kernel
theorem dX4_counted_97 : decode cX4_counted 97 = .ok (.getfield 10, 3) := by decide +kernel
theorem dX4_counted_100 : decode cX4_counted 100 = .ok (.getfield 213, 3) := by decide +kernel
theorem dX4_counted_103 : decode cX4_counted 103 = .ok (.ireturn, 1) := by decide +kernel
theorem dX4_toldOf_0 : decode cX4_toldOf 0 = .ok (.iload_n 1, 1) := by decide +kernel
theorem dX4_toldOf_1 : decode cX4_toldOf 1 = .ok (.aload_n 0, 1) := by decide +kernel
theorem dX4_toldOf_2 : decode cX4_toldOf 2 = .ok (.getfield 45, 3) := by decide +kernel
theorem dX4_toldOf_5 : decode cX4_toldOf 5 = .ok (.arraylength, 1) := by decide +kernel
theorem dX4_toldOf_6 : decode cX4_toldOf 6 = .ok (.iconst 1, 1) := by decide +kernel
theorem dX4_toldOf_7 : decode cX4_toldOf 7 = .ok (.isub, 1) := by decide +kernel
theorem dX4_toldOf_8 : decode cX4_toldOf 8 = .ok (.invokestatic 77, 3) := by decide +kernel
theorem dX4_toldOf_11 : decode cX4_toldOf 11 = .ok (.ifCond .eq 10, 3) := by decide +kernel
theorem dX4_toldOf_14 : decode cX4_toldOf 14 = .ok (.aload_n 0, 1) := by decide +kernel
theorem dX4_toldOf_15 : decode cX4_toldOf 15 = .ok (.getfield 45, 3) := by decide +kernel
theorem dX4_toldOf_18 : decode cX4_toldOf 18 = .ok (.iload_n 1, 1) := by decide +kernel
theorem dX4_toldOf_19 : decode cX4_toldOf 19 = .ok (.iaload, 1) := by decide +kernel
theorem dX4_toldOf_20 : decode cX4_toldOf 20 = .ok (.ireturn, 1) := by decide +kernel
theorem dX4_toldOf_21 : decode cX4_toldOf 21 = .ok (.iload_n 1, 1) := by decide +kernel
theorem dX4_toldOf_22 : decode cX4_toldOf 22 = .ok (.iconst 3, 1) := by decide +kernel
theorem dX4_toldOf_23 : decode cX4_toldOf 23 = .ok (.if_icmp .ne 10, 3) := by decide +kernel
theorem dX4_toldOf_26 : decode cX4_toldOf 26 = .ok (.aload_n 0, 1) := by decide +kernel
theorem dX4_toldOf_27 : decode cX4_toldOf 27 = .ok (.getfield 41, 3) := by decide +kernel
theorem dX4_toldOf_30 : decode cX4_toldOf 30 = .ok (.goto 10, 3) := by decide +kernel
theorem dX4_toldOf_33 : decode cX4_toldOf 33 = .ok (.aload_n 0, 1) := by decide +kernel
theorem dX4_toldOf_34 : decode cX4_toldOf 34 = .ok (.getfield 26, 3) := by decide +kernel
theorem dX4_toldOf_37 : decode cX4_toldOf 37 = .ok (.getfield 171, 3) := by decide +kernel
theorem dX4_toldOf_40 : decode cX4_toldOf 40 = .ok (.ireturn, 1) := by decide +kernel
theorem dX4_faultOfText_0 : decode cX4_faultOfText 0 = .ok (.aload_n 0, 1) := by decide +kernel
theorem dX4_faultOfText_1 : decode cX4_faultOfText 1 = .ok (.getfield 33, 3) := by decide +kernel
theorem dX4_faultOfText_4 : decode cX4_faultOfText 4 = .ok (.invokevirtual 139, 3) := by decide +kernel
theorem dX4_faultOfText_7 : decode cX4_faultOfText 7 = .ok (.iconst 0, 1) := by decide +kernel
theorem dX4_faultOfText_8 : decode cX4_faultOfText 8 = .ok (.istore_n 1, 1) := by decide +kernel
theorem dX4_faultOfText_9 : decode cX4_faultOfText 9 = .ok (.iload_n 1, 1) := by decide +kernel
theorem dX4_faultOfText_10 : decode cX4_faultOfText 10 = .ok (.aload_n 0, 1) := by decide +kernel
theorem dX4_faultOfText_11 : decode cX4_faultOfText 11 = .ok (.getfield 41, 3) := by decide +kernel
theorem dX4_faultOfText_14 : decode cX4_faultOfText 14 = .ok (.if_icmp .ge 36, 3) := by decide +kernel
theorem dX4_faultOfText_17 : decode cX4_faultOfText 17 = .ok (.iload_n 1, 1) := by decide +kernel
theorem dX4_faultOfText_18 : decode cX4_faultOfText 18 = .ok (.aload_n 0, 1) := by decide +kernel
theorem dX4_faultOfText_19 : decode cX4_faultOfText 19 = .ok (.getfield 37, 3) := by decide +kernel
theorem dX4_faultOfText_22 : decode cX4_faultOfText 22 = .ok (.arraylength, 1) := by decide +kernel
theorem dX4_faultOfText_23 : decode cX4_faultOfText 23 = .ok (.if_icmp .ge 27, 3) := by decide +kernel
theorem dX4_faultOfText_26 : decode cX4_faultOfText 26 = .ok (.aload_n 0, 1) := by decide +kernel
theorem dX4_faultOfText_27 : decode cX4_faultOfText 27 = .ok (.getfield 33, 3) := by decide +kernel
theorem dX4_faultOfText_30 : decode cX4_faultOfText 30 = .ok (.aload_n 0, 1) := by decide +kernel
theorem dX4_faultOfText_31 : decode cX4_faultOfText 31 = .ok (.getfield 37, 3) := by decide +kernel
theorem dX4_faultOfText_34 : decode cX4_faultOfText 34 = .ok (.iload_n 1, 1) := by decide +kernel
theorem dX4_faultOfText_35 : decode cX4_faultOfText 35 = .ok (.iaload, 1) := by decide +kernel
theorem dX4_faultOfText_36 : decode cX4_faultOfText 36 = .ok (.invokevirtual 142, 3) := by decide +kernel
theorem dX4_faultOfText_39 : decode cX4_faultOfText 39 = .ok (.ifCond .ne 5, 3) := by decide +kernel
theorem dX4_faultOfText_42 : decode cX4_faultOfText 42 = .ok (.iload_n 1, 1) := by decide +kernel
theorem dX4_faultOfText_43 : decode cX4_faultOfText 43 = .ok (.ireturn, 1) := by decide +kernel
theorem dX4_faultOfText_44 : decode cX4_faultOfText 44 = .ok (.iinc 1 1, 3) := by decide +kernel
theorem dX4_faultOfText_47 : decode cX4_faultOfText 47 = .ok (.goto (-38), 3) := by decide +kernel
theorem dX4_faultOfText_50 : decode cX4_faultOfText 50 = .ok (.aload_n 0, 1) := by decide +kernel
theorem dX4_faultOfText_51 : decode cX4_faultOfText 51 = .ok (.getfield 33, 3) := by decide +kernel
theorem dX4_faultOfText_54 : decode cX4_faultOfText 54 = .ok (.invokevirtual 216, 3) := by decide +kernel
theorem dX4_faultOfText_57 : decode cX4_faultOfText 57 = .ok (.ifCond .eq 7, 3) := by decide +kernel
theorem dX4_faultOfText_60 : decode cX4_faultOfText 60 = .ok (.iconst (-1), 1) := by decide +kernel
theorem dX4_faultOfText_61 : decode cX4_faultOfText 61 = .ok (.goto 7, 3) := by decide +kernel
theorem dX4_faultOfText_64 : decode cX4_faultOfText 64 = .ok (.aload_n 0, 1) := by decide +kernel
theorem dX4_faultOfText_65 : decode cX4_faultOfText 65 = .ok (.getfield 41, 3) := by decide +kernel
theorem dX4_faultOfText_68 : decode cX4_faultOfText 68 = .ok (.ireturn, 1) := by decide +kernel
theorem dX4_within_0 : decode cX4_within 0 = .ok (.iload_n 0, 1) := by decide +kernel
theorem dX4_within_1 : decode cX4_within 1 = .ok (.ifCond .lt 12, 3) := by decide +kernel
theorem dX4_within_4 : decode cX4_within 4 = .ok (.iload_n 0, 1) := by decide +kernel
theorem dX4_within_5 : decode cX4_within 5 = .ok (.iload_n 1, 1) := by decide +kernel
theorem dX4_within_6 : decode cX4_within 6 = .ok (.if_icmp .gt 7, 3) := by decide +kernel
theorem dX4_within_9 : decode cX4_within 9 = .ok (.iconst 1, 1) := by decide +kernel
theorem dX4_within_10 : decode cX4_within 10 = .ok (.goto 4, 3) := by decide +kernel
theorem dX4_within_13 : decode cX4_within 13 = .ok (.iconst 0, 1) := by decide +kernel
theorem dX4_within_14 : decode cX4_within 14 = .ok (.ireturn, 1) := by decide +kernel
theorem dX4_isSpan_0 : decode cX4_isSpan 0 = .ok (.iload_n 0, 1) := by decide +kernel
theorem dX4_isSpan_1 : decode cX4_isSpan 1 = .ok (.sipush 999, 3) := by decide +kernel
theorem dX4_isSpan_4 : decode cX4_isSpan 4 = .ok (.invokestatic 77, 3) := by decide +kernel
theorem dX4_isSpan_7 : decode cX4_isSpan 7 = .ok (.ifCond .eq 22, 3) := by decide +kernel
theorem dX4_isSpan_10 : decode cX4_isSpan 10 = .ok (.iload_n 1, 1) := by decide +kernel
theorem dX4_isSpan_11 : decode cX4_isSpan 11 = .ok (.sipush 999, 3) := by decide +kernel
theorem dX4_isSpan_14 : decode cX4_isSpan 14 = .ok (.invokestatic 77, 3) := by decide +kernel
theorem dX4_isSpan_17 : decode cX4_isSpan 17 = .ok (.ifCond .eq 12, 3) := by decide +kernel
theorem dX4_isSpan_20 : decode cX4_isSpan 20 = .ok (.iload_n 0, 1) := by decide +kernel
theorem dX4_isSpan_21 : decode cX4_isSpan 21 = .ok (.iload_n 1, 1) := by decide +kernel
theorem dX4_isSpan_22 : decode cX4_isSpan 22 = .ok (.if_icmp .gt 7, 3) := by decide +kernel
theorem dX4_isSpan_25 : decode cX4_isSpan 25 = .ok (.iconst 1, 1) := by decide +kernel
theorem dX4_isSpan_26 : decode cX4_isSpan 26 = .ok (.goto 4, 3) := by decide +kernel
theorem dX4_isSpan_29 : decode cX4_isSpan 29 = .ok (.iconst 0, 1) := by decide +kernel
theorem dX4_isSpan_30 : decode cX4_isSpan 30 = .ok (.ireturn, 1) := by decide +kernel
theorem dX4_cellsOf_0 : decode cX4_cellsOf 0 = .ok (.iconst 4, 1) := by decide +kernel
theorem dX4_cellsOf_1 : decode cX4_cellsOf 1 = .ok (.iload_n 0, 1) := by decide +kernel
theorem dX4_cellsOf_2 : decode cX4_cellsOf 2 = .ok (.ishl, 1) := by decide +kernel
theorem dX4_cellsOf_3 : decode cX4_cellsOf 3 = .ok (.ireturn, 1) := by decide +kernel
theorem dX5_init_0 : decode cX5_init 0 = .ok (.aload_n 0, 1) := by decide +kernel
theorem dX5_init_1 : decode cX5_init 1 = .ok (.invokespecial 1, 3) := by decide +kernel
theorem dX5_init_4 : decode cX5_init 4 = .ok (.aload_n 0, 1) := by decide +kernel
theorem dX5_init_5 : decode cX5_init 5 = .ok (.sipush 159, 3) := by decide +kernel
theorem dX5_init_8 : decode cX5_init 8 = .ok (.newarray .int, 2) := by decide +kernel
theorem dX5_init_10 : decode cX5_init 10 = .ok (.putfield 7, 3) := by decide +kernel
theorem dX5_init_13 : decode cX5_init 13 = .ok (.aload_n 0, 1) := by decide +kernel
theorem dX5_init_14 : decode cX5_init 14 = .ok (.sipush 795, 3) := by decide +kernel
theorem dX5_init_17 : decode cX5_init 17 = .ok (.newarray .int, 2) := by decide +kernel
theorem dX5_init_19 : decode cX5_init 19 = .ok (.putfield 13, 3) := by decide +kernel
theorem dX5_init_22 : decode cX5_init 22 = .ok (.aload_n 0, 1) := by decide +kernel
theorem dX5_init_23 : decode cX5_init 23 = .ok (.sipush 159, 3) := by decide +kernel
theorem dX5_init_26 : decode cX5_init 26 = .ok (.newarray .int, 2) := by decide +kernel
theorem dX5_init_28 : decode cX5_init 28 = .ok (.putfield 16, 3) := by decide +kernel
theorem dX5_init_31 : decode cX5_init 31 = .ok (.aload_n 0, 1) := by decide +kernel
theorem dX5_init_32 : decode cX5_init 32 = .ok (.iconst 3, 1) := by decide +kernel
theorem dX5_init_33 : decode cX5_init 33 = .ok (.newarray .int, 2) := by decide +kernel
theorem dX5_init_35 : decode cX5_init 35 = .ok (.putfield 19, 3) := by decide +kernel
theorem dX5_init_38 : decode cX5_init 38 = .ok (.aload_n 0, 1) := by decide +kernel
theorem dX5_init_39 : decode cX5_init 39 = .ok (.bipush 64, 2) := by decide +kernel
theorem dX5_init_41 : decode cX5_init 41 = .ok (.newarray .int, 2) := by decide +kernel
theorem dX5_init_43 : decode cX5_init 43 = .ok (.putfield 22, 3) := by decide +kernel
theorem dX5_init_46 : decode cX5_init 46 = .ok (.aload_n 0, 1) := by decide +kernel
theorem dX5_init_47 : decode cX5_init 47 = .ok (.bipush 64, 2) := by decide +kernel
theorem dX5_init_49 : decode cX5_init 49 = .ok (.newarray .int, 2) := by decide +kernel
theorem dX5_init_51 : decode cX5_init 51 = .ok (.putfield 25, 3) := by decide +kernel
theorem dX5_init_54 : decode cX5_init 54 = .ok (.aload_n 0, 1) := by decide +kernel
theorem dX5_init_55 : decode cX5_init 55 = .ok (.bipush 64, 2) := by decide +kernel
theorem dX5_init_57 : decode cX5_init 57 = .ok (.newarray .int, 2) := by decide +kernel
theorem dX5_init_59 : decode cX5_init 59 = .ok (.putfield 28, 3) := by decide +kernel
theorem dX5_init_62 : decode cX5_init 62 = .ok (.aload_n 0, 1) := by decide +kernel
theorem dX5_init_63 : decode cX5_init 63 = .ok (.bipush 120, 2) := by decide +kernel
theorem dX5_init_65 : decode cX5_init 65 = .ok (.newarray .int, 2) := by decide +kernel
theorem dX5_init_67 : decode cX5_init 67 = .ok (.putfield 31, 3) := by decide +kernel
theorem dX5_init_70 : decode cX5_init 70 = .ok (.aload_n 0, 1) := by decide +kernel
theorem dX5_init_71 : decode cX5_init 71 = .ok (.sipush 180, 3) := by decide +kernel
theorem dX5_init_74 : decode cX5_init 74 = .ok (.newarray .int, 2) := by decide +kernel
theorem dX5_init_76 : decode cX5_init 76 = .ok (.putfield 34, 3) := by decide +kernel
theorem dX5_init_79 : decode cX5_init 79 = .ok (.aload_n 0, 1) := by decide +kernel
theorem dX5_init_80 : decode cX5_init 80 = .ok (.getfield 7, 3) := by decide +kernel
theorem dX5_init_83 : decode cX5_init 83 = .ok (.iconst 0, 1) := by decide +kernel
theorem dX5_init_84 : decode cX5_init 84 = .ok (.bipush 16, 2) := by decide +kernel
theorem dX5_init_86 : decode cX5_init 86 = .ok (.iastore, 1) := by decide +kernel
theorem dX5_init_87 : decode cX5_init 87 = .ok (.iconst 0, 1) := by decide +kernel
theorem dX5_init_88 : decode cX5_init 88 = .ok (.istore_n 1, 1) := by decide +kernel
theorem dX5_init_89 : decode cX5_init 89 = .ok (.iload_n 1, 1) := by decide +kernel
theorem dX5_init_90 : decode cX5_init 90 = .ok (.bipush 64, 2) := by decide +kernel
theorem dX5_init_92 : decode cX5_init 92 = .ok (.if_icmp .ge 19, 3) := by decide +kernel
theorem dX5_init_95 : decode cX5_init 95 = .ok (.aload_n 0, 1) := by decide +kernel
theorem dX5_init_96 : decode cX5_init 96 = .ok (.getfield 7, 3) := by decide +kernel
theorem dX5_init_99 : decode cX5_init 99 = .ok (.bipush 31, 2) := by decide +kernel
theorem dX5_init_101 : decode cX5_init 101 = .ok (.iload_n 1, 1) := by decide +kernel
theorem dX5_init_102 : decode cX5_init 102 = .ok (.iadd, 1) := by decide +kernel
theorem dX5_init_103 : decode cX5_init 103 = .ok (.iconst (-1), 1) := by decide +kernel
theorem dX5_init_104 : decode cX5_init 104 = .ok (.iastore, 1) := by decide +kernel
theorem dX5_init_105 : decode cX5_init 105 = .ok (.iinc 1 1, 3) := by decide +kernel
theorem dX5_init_108 : decode cX5_init 108 = .ok (.goto (-19), 3) := by decide +kernel
theorem dX5_init_111 : decode cX5_init 111 = .ok (.return_, 1) := by decide +kernel
theorem dX5_in_0 : decode cX5_in 0 = .ok (.iload_n 0, 1) := by decide +kernel
theorem dX5_in_1 : decode cX5_in 1 = .ok (.iload_n 1, 1) := by decide +kernel
theorem dX5_in_2 : decode cX5_in 2 = .ok (.if_icmp .lt 12, 3) := by decide +kernel
theorem dX5_in_5 : decode cX5_in 5 = .ok (.iload_n 0, 1) := by decide +kernel
theorem dX5_in_6 : decode cX5_in 6 = .ok (.iload_n 2, 1) := by decide +kernel
theorem dX5_in_7 : decode cX5_in 7 = .ok (.if_icmp .gt 7, 3) := by decide +kernel
theorem dX5_in_10 : decode cX5_in 10 = .ok (.iconst 1, 1) := by decide +kernel
theorem dX5_in_11 : decode cX5_in 11 = .ok (.goto 4, 3) := by decide +kernel
theorem dX5_in_14 : decode cX5_in 14 = .ok (.iconst 0, 1) := by decide +kernel
theorem dX5_in_15 : decode cX5_in 15 = .ok (.ireturn, 1) := by decide +kernel
theorem dX5_answers_0 : decode cX5_answers 0 = .ok (.iload_n 2, 1) := by decide +kernel
theorem dX5_answers_1 : decode cX5_answers 1 = .ok (.ifCond .eq 16, 3) := by decide +kernel
theorem dX5_answers_4 : decode cX5_answers 4 = .ok (.aload_n 0, 1) := by decide +kernel
theorem dX5_answers_5 : decode cX5_answers 5 = .ok (.getfield 19, 3) := by decide +kernel
theorem dX5_answers_8 : decode cX5_answers 8 = .ok (.bipush (-2), 2) := by decide +kernel
theorem dX5_answers_10 : decode cX5_answers 10 = .ok (.iload_n 1, 1) := by decide +kernel
theorem dX5_answers_11 : decode cX5_answers 11 = .ok (.isub, 1) := by decide +kernel
theorem dX5_answers_12 : decode cX5_answers 12 = .ok (.dup2, 1) := by decide +kernel
theorem dX5_answers_13 : decode cX5_answers 13 = .ok (.iaload, 1) := by decide +kernel
theorem dX5_answers_14 : decode cX5_answers 14 = .ok (.iconst 1, 1) := by decide +kernel
theorem dX5_answers_15 : decode cX5_answers 15 = .ok (.iadd, 1) := by decide +kernel
theorem dX5_answers_16 : decode cX5_answers 16 = .ok (.iastore, 1) := by decide +kernel
theorem dX5_answers_17 : decode cX5_answers 17 = .ok (.iload_n 1, 1) := by decide +kernel
theorem dX5_answers_18 : decode cX5_answers 18 = .ok (.ireturn, 1) := by decide +kernel
theorem dX5_bad_0 : decode cX5_bad 0 = .ok (.aload_n 0, 1) := by decide +kernel
theorem dX5_bad_1 : decode cX5_bad 1 = .ok (.bipush (-2), 2) := by decide +kernel
theorem dX5_bad_3 : decode cX5_bad 3 = .ok (.iconst 1, 1) := by decide +kernel
theorem dX5_bad_4 : decode cX5_bad 4 = .ok (.invokevirtual 41, 3) := by decide +kernel
theorem dX5_bad_7 : decode cX5_bad 7 = .ok (.ireturn, 1) := by decide +kernel
theorem dX5_top_0 : decode cX5_top 0 = .ok (.aload_n 0, 1) := by decide +kernel
theorem dX5_top_1 : decode cX5_top 1 = .ok (.getfield 7, 3) := by decide +kernel
theorem dX5_top_4 : decode cX5_top 4 = .ok (.iconst 0, 1) := by decide +kernel
theorem dX5_top_5 : decode cX5_top 5 = .ok (.iaload, 1) := by decide +kernel
theorem dX5_top_6 : decode cX5_top 6 = .ok (.bipush 16, 2) := by decide +kernel
theorem dX5_top_8 : decode cX5_top 8 = .ok (.if_icmp .ne 7, 3) := by decide +kernel
theorem dX5_top_11 : decode cX5_top 11 = .ok (.iconst 2, 1) := by decide +kernel
theorem dX5_top_12 : decode cX5_top 12 = .ok (.goto 19, 3) := by decide +kernel
theorem dX5_top_15 : decode cX5_top 15 = .ok (.aload_n 0, 1) := by decide +kernel
theorem dX5_top_16 : decode cX5_top 16 = .ok (.getfield 7, 3) := by decide +kernel
theorem dX5_top_19 : decode cX5_top 19 = .ok (.iconst 0, 1) := by decide +kernel
theorem dX5_top_20 : decode cX5_top 20 = .ok (.iaload, 1) := by decide +kernel
theorem dX5_top_21 : decode cX5_top 21 = .ok (.bipush 32, 2) := by decide +kernel
theorem dX5_top_23 : decode cX5_top 23 = .ok (.if_icmp .ne 7, 3) := by decide +kernel
theorem dX5_top_26 : decode cX5_top 26 = .ok (.iconst 3, 1) := by decide +kernel
theorem dX5_top_27 : decode cX5_top 27 = .ok (.goto 4, 3) := by decide +kernel
theorem dX5_top_30 : decode cX5_top 30 = .ok (.iconst 4, 1) := by decide +kernel
theorem dX5_top_31 : decode cX5_top 31 = .ok (.ireturn, 1) := by decide +kernel
theorem dX5_wide_0 : decode cX5_wide 0 = .ok (.iconst 4, 1) := by decide +kernel
theorem dX5_wide_1 : decode cX5_wide 1 = .ok (.iload_n 0, 1) := by decide +kernel
theorem dX5_wide_2 : decode cX5_wide 2 = .ok (.ishl, 1) := by decide +kernel
theorem dX5_wide_3 : decode cX5_wide 3 = .ok (.ireturn, 1) := by decide +kernel
theorem dX5_most_0 : decode cX5_most 0 = .ok (.iload_n 1, 1) := by decide +kernel
theorem dX5_most_1 : decode cX5_most 1 = .ok (.invokestatic 45, 3) := by decide +kernel
theorem dX5_most_4 : decode cX5_most 4 = .ok (.bipush 100, 2) := by decide +kernel
theorem dX5_most_6 : decode cX5_most 6 = .ok (.bipush 25, 2) := by decide +kernel
theorem dX5_most_8 : decode cX5_most 8 = .ok (.iload_n 1, 1) := by decide +kernel
theorem dX5_most_9 : decode cX5_most 9 = .ok (.imul, 1) := by decide +kernel
theorem dX5_most_10 : decode cX5_most 10 = .ok (.aload_n 0, 1) := by decide +kernel
theorem dX5_most_11 : decode cX5_most 11 = .ok (.invokevirtual 49, 3) := by decide +kernel
theorem dX5_most_14 : decode cX5_most 14 = .ok (.idiv, 1) := by decide +kernel
theorem dX5_most_15 : decode cX5_most 15 = .ok (.isub, 1) := by decide +kernel
theorem dX5_most_16 : decode cX5_most 16 = .ok (.imul, 1) := by decide +kernel
theorem dX5_most_17 : decode cX5_most 17 = .ok (.bipush 100, 2) := by decide +kernel
theorem dX5_most_19 : decode cX5_most 19 = .ok (.idiv, 1) := by decide +kernel
theorem dX5_most_20 : decode cX5_most 20 = .ok (.ireturn, 1) := by decide +kernel
theorem dX5_least_0 : decode cX5_least 0 = .ok (.iload_n 1, 1) := by decide +kernel
theorem dX5_least_1 : decode cX5_least 1 = .ok (.invokestatic 45, 3) := by decide +kernel
theorem dX5_least_4 : decode cX5_least 4 = .ok (.bipush 25, 2) := by decide +kernel
theorem dX5_least_6 : decode cX5_least 6 = .ok (.iconst 5, 1) := by decide +kernel
theorem dX5_least_7 : decode cX5_least 7 = .ok (.iload_n 1, 1) := by decide +kernel
theorem dX5_least_8 : decode cX5_least 8 = .ok (.imul, 1) := by decide +kernel
theorem dX5_least_9 : decode cX5_least 9 = .ok (.aload_n 0, 1) := by decide +kernel
theorem dX5_least_10 : decode cX5_least 10 = .ok (.invokevirtual 49, 3) := by decide +kernel
theorem dX5_least_13 : decode cX5_least 13 = .ok (.idiv, 1) := by decide +kernel
theorem dX5_least_14 : decode cX5_least 14 = .ok (.iadd, 1) := by decide +kernel
theorem dX5_least_15 : decode cX5_least 15 = .ok (.imul, 1) := by decide +kernel
theorem dX5_least_16 : decode cX5_least 16 = .ok (.bipush 100, 2) := by decide +kernel
theorem dX5_least_18 : decode cX5_least 18 = .ok (.idiv, 1) := by decide +kernel
theorem dX5_least_19 : decode cX5_least 19 = .ok (.ireturn, 1) := by decide +kernel
theorem dX5_keysIn_0 : decode cX5_keysIn 0 = .ok (.iconst 0, 1) := by decide +kernel
theorem dX5_keysIn_1 : decode cX5_keysIn 1 = .ok (.istore_n 3, 1) := by decide +kernel
theorem dX5_keysIn_2 : decode cX5_keysIn 2 = .ok (.iload_n 1, 1) := by decide +kernel
theorem dX5_keysIn_3 : decode cX5_keysIn 3 = .ok (.istore 4, 2) := by decide +kernel
theorem dX5_keysIn_5 : decode cX5_keysIn 5 = .ok (.iload 4, 2) := by decide +kernel
theorem dX5_keysIn_7 : decode cX5_keysIn 7 = .ok (.iload_n 1, 1) := by decide +kernel
theorem dX5_keysIn_8 : decode cX5_keysIn 8 = .ok (.iload_n 2, 1) := by decide +kernel
theorem dX5_keysIn_9 : decode cX5_keysIn 9 = .ok (.iadd, 1) := by decide +kernel
theorem dX5_keysIn_10 : decode cX5_keysIn 10 = .ok (.if_icmp .ge 31, 3) := by decide +kernel
theorem dX5_keysIn_13 : decode cX5_keysIn 13 = .ok (.iload_n 3, 1) := by decide +kernel
theorem dX5_keysIn_14 : decode cX5_keysIn 14 = .ok (.aload_n 0, 1) := by decide +kernel
theorem dX5_keysIn_15 : decode cX5_keysIn 15 = .ok (.getfield 7, 3) := by decide +kernel
theorem dX5_keysIn_18 : decode cX5_keysIn 18 = .ok (.bipush 31, 2) := by decide +kernel
theorem dX5_keysIn_20 : decode cX5_keysIn 20 = .ok (.iload 4, 2) := by decide +kernel
theorem dX5_keysIn_22 : decode cX5_keysIn 22 = .ok (.iadd, 1) := by decide +kernel
theorem dX5_keysIn_23 : decode cX5_keysIn 23 = .ok (.iaload, 1) := by decide +kernel
theorem dX5_keysIn_24 : decode cX5_keysIn 24 = .ok (.iconst (-1), 1) := by decide +kernel
theorem dX5_keysIn_25 : decode cX5_keysIn 25 = .ok (.if_icmp .ne 7, 3) := by decide +kernel
theorem dX5_keysIn_28 : decode cX5_keysIn 28 = .ok (.iconst 0, 1) := by decide +kernel
theorem dX5_keysIn_29 : decode cX5_keysIn 29 = .ok (.goto 4, 3) := by decide +kernel
theorem dX5_keysIn_32 : decode cX5_keysIn 32 = .ok (.iconst 1, 1) := by decide +kernel
theorem dX5_keysIn_33 : decode cX5_keysIn 33 = .ok (.iadd, 1) := by decide +kernel
theorem dX5_keysIn_34 : decode cX5_keysIn 34 = .ok (.istore_n 3, 1) := by decide +kernel
theorem dX5_keysIn_35 : decode cX5_keysIn 35 = .ok (.iinc 4 1, 3) := by decide +kernel
theorem dX5_keysIn_38 : decode cX5_keysIn 38 = .ok (.goto (-33), 3) := by decide +kernel
theorem dX5_keysIn_41 : decode cX5_keysIn 41 = .ok (.iload_n 3, 1) := by decide +kernel
theorem dX5_keysIn_42 : decode cX5_keysIn 42 = .ok (.ireturn, 1) := by decide +kernel
theorem dX5_cellOf_0 : decode cX5_cellOf 0 = .ok (.iconst (-1), 1) := by decide +kernel
theorem dX5_cellOf_1 : decode cX5_cellOf 1 = .ok (.istore_n 2, 1) := by decide +kernel
theorem dX5_cellOf_2 : decode cX5_cellOf 2 = .ok (.iconst 0, 1) := by decide +kernel
theorem dX5_cellOf_3 : decode cX5_cellOf 3 = .ok (.istore_n 3, 1) := by decide +kernel
theorem dX5_cellOf_4 : decode cX5_cellOf 4 = .ok (.iload_n 3, 1) := by decide +kernel
theorem dX5_cellOf_5 : decode cX5_cellOf 5 = .ok (.aload_n 0, 1) := by decide +kernel
theorem dX5_cellOf_6 : decode cX5_cellOf 6 = .ok (.getfield 7, 3) := by decide +kernel
theorem dX5_cellOf_9 : decode cX5_cellOf 9 = .ok (.iconst 0, 1) := by decide +kernel
theorem dX5_cellOf_10 : decode cX5_cellOf 10 = .ok (.iaload, 1) := by decide +kernel
theorem dX5_cellOf_11 : decode cX5_cellOf 11 = .ok (.if_icmp .ge 28, 3) := by decide +kernel
theorem dX5_cellOf_14 : decode cX5_cellOf 14 = .ok (.aload_n 0, 1) := by decide +kernel
theorem dX5_cellOf_15 : decode cX5_cellOf 15 = .ok (.getfield 7, 3) := by decide +kernel
theorem dX5_cellOf_18 : decode cX5_cellOf 18 = .ok (.bipush 31, 2) := by decide +kernel
theorem dX5_cellOf_20 : decode cX5_cellOf 20 = .ok (.iload_n 3, 1) := by decide +kernel
theorem dX5_cellOf_21 : decode cX5_cellOf 21 = .ok (.iadd, 1) := by decide +kernel
theorem dX5_cellOf_22 : decode cX5_cellOf 22 = .ok (.iaload, 1) := by decide +kernel
theorem dX5_cellOf_23 : decode cX5_cellOf 23 = .ok (.iload_n 1, 1) := by decide +kernel
theorem dX5_cellOf_24 : decode cX5_cellOf 24 = .ok (.if_icmp .ne 7, 3) := by decide +kernel
theorem dX5_cellOf_27 : decode cX5_cellOf 27 = .ok (.iload_n 3, 1) := by decide +kernel
theorem dX5_cellOf_28 : decode cX5_cellOf 28 = .ok (.goto 4, 3) := by decide +kernel
theorem dX5_cellOf_31 : decode cX5_cellOf 31 = .ok (.iload_n 2, 1) := by decide +kernel
theorem dX5_cellOf_32 : decode cX5_cellOf 32 = .ok (.istore_n 2, 1) := by decide +kernel
theorem dX5_cellOf_33 : decode cX5_cellOf 33 = .ok (.iinc 3 1, 3) := by decide +kernel
theorem dX5_cellOf_36 : decode cX5_cellOf 36 = .ok (.goto (-32), 3) := by decide +kernel
theorem dX5_cellOf_39 : decode cX5_cellOf 39 = .ok (.iload_n 2, 1) := by decide +kernel
theorem dX5_cellOf_40 : decode cX5_cellOf 40 = .ok (.ireturn, 1) := by decide +kernel
theorem dX5_lays_0 : decode cX5_lays 0 = .ok (.aload_n 0, 1) := by decide +kernel
theorem dX5_lays_1 : decode cX5_lays 1 = .ok (.getfield 22, 3) := by decide +kernel
theorem dX5_lays_4 : decode cX5_lays 4 = .ok (.aload_n 0, 1) := by decide +kernel
theorem dX5_lays_5 : decode cX5_lays 5 = .ok (.getfield 53, 3) := by decide +kernel
theorem dX5_lays_8 : decode cX5_lays 8 = .ok (.iload_n 1, 1) := by decide +kernel
theorem dX5_lays_9 : decode cX5_lays 9 = .ok (.iastore, 1) := by decide +kernel
theorem dX5_lays_10 : decode cX5_lays 10 = .ok (.aload_n 0, 1) := by decide +kernel
theorem dX5_lays_11 : decode cX5_lays 11 = .ok (.getfield 25, 3) := by decide +kernel
theorem dX5_lays_14 : decode cX5_lays 14 = .ok (.aload_n 0, 1) := by decide +kernel
theorem dX5_lays_15 : decode cX5_lays 15 = .ok (.getfield 53, 3) := by decide +kernel
theorem dX5_lays_18 : decode cX5_lays 18 = .ok (.iload_n 2, 1) := by decide +kernel
theorem dX5_lays_19 : decode cX5_lays 19 = .ok (.iastore, 1) := by decide +kernel
theorem dX5_lays_20 : decode cX5_lays 20 = .ok (.aload_n 0, 1) := by decide +kernel
theorem dX5_lays_21 : decode cX5_lays 21 = .ok (.getfield 28, 3) := by decide +kernel
theorem dX5_lays_24 : decode cX5_lays 24 = .ok (.aload_n 0, 1) := by decide +kernel
theorem dX5_lays_25 : decode cX5_lays 25 = .ok (.getfield 53, 3) := by decide +kernel
theorem dX5_lays_28 : decode cX5_lays 28 = .ok (.iload_n 3, 1) := by decide +kernel
theorem dX5_lays_29 : decode cX5_lays 29 = .ok (.iastore, 1) := by decide +kernel
theorem dX5_lays_30 : decode cX5_lays 30 = .ok (.aload_n 0, 1) := by decide +kernel
theorem dX5_lays_31 : decode cX5_lays 31 = .ok (.dup, 1) := by decide +kernel
theorem dX5_lays_32 : decode cX5_lays 32 = .ok (.getfield 53, 3) := by decide +kernel
theorem dX5_lays_35 : decode cX5_lays 35 = .ok (.iconst 1, 1) := by decide +kernel
theorem dX5_lays_36 : decode cX5_lays 36 = .ok (.iadd, 1) := by decide +kernel
theorem dX5_lays_37 : decode cX5_lays 37 = .ok (.putfield 53, 3) := by decide +kernel
theorem dX5_lays_40 : decode cX5_lays 40 = .ok (.return_, 1) := by decide +kernel
theorem dX5_takesOut_0 : decode cX5_takesOut 0 = .ok (.aload_n 0, 1) := by decide +kernel
theorem dX5_takesOut_1 : decode cX5_takesOut 1 = .ok (.iconst 0, 1) := by decide +kernel
theorem dX5_takesOut_2 : decode cX5_takesOut 2 = .ok (.putfield 53, 3) := by decide +kernel
theorem dX5_takesOut_5 : decode cX5_takesOut 5 = .ok (.aload_n 0, 1) := by decide +kernel
theorem dX5_takesOut_6 : decode cX5_takesOut 6 = .ok (.iconst (-1), 1) := by decide +kernel
theorem dX5_takesOut_7 : decode cX5_takesOut 7 = .ok (.putfield 56, 3) := by decide +kernel
theorem dX5_takesOut_10 : decode cX5_takesOut 10 = .ok (.iload_n 1, 1) := by decide +kernel
theorem dX5_takesOut_11 : decode cX5_takesOut 11 = .ok (.istore 5, 2) := by decide +kernel
theorem dX5_takesOut_13 : decode cX5_takesOut 13 = .ok (.iload 5, 2) := by decide +kernel
theorem dX5_takesOut_15 : decode cX5_takesOut 15 = .ok (.iload_n 1, 1) := by decide +kernel
theorem dX5_takesOut_16 : decode cX5_takesOut 16 = .ok (.iload_n 2, 1) := by decide +kernel
theorem dX5_takesOut_17 : decode cX5_takesOut 17 = .ok (.iadd, 1) := by decide +kernel
theorem dX5_takesOut_18 : decode cX5_takesOut 18 = .ok (.if_icmp .ge 114, 3) := by decide +kernel
theorem dX5_takesOut_21 : decode cX5_takesOut 21 = .ok (.aload_n 0, 1) := by decide +kernel
theorem dX5_takesOut_22 : decode cX5_takesOut 22 = .ok (.getfield 7, 3) := by decide +kernel
theorem dX5_takesOut_25 : decode cX5_takesOut 25 = .ok (.bipush 31, 2) := by decide +kernel
theorem dX5_takesOut_27 : decode cX5_takesOut 27 = .ok (.iload 5, 2) := by decide +kernel
theorem dX5_takesOut_29 : decode cX5_takesOut 29 = .ok (.iadd, 1) := by decide +kernel
theorem dX5_takesOut_30 : decode cX5_takesOut 30 = .ok (.iaload, 1) := by decide +kernel
theorem dX5_takesOut_31 : decode cX5_takesOut 31 = .ok (.iconst (-1), 1) := by decide +kernel
theorem dX5_takesOut_32 : decode cX5_takesOut 32 = .ok (.if_icmp .eq 94, 3) := by decide +kernel
theorem dX5_takesOut_35 : decode cX5_takesOut 35 = .ok (.iload_n 3, 1) := by decide +kernel
theorem dX5_takesOut_36 : decode cX5_takesOut 36 = .ok (.iconst (-1), 1) := by decide +kernel
theorem dX5_takesOut_37 : decode cX5_takesOut 37 = .ok (.if_icmp .eq 41, 3) := by decide +kernel
theorem dX5_takesOut_40 : decode cX5_takesOut 40 = .ok (.aload_n 0, 1) := by decide +kernel
theorem dX5_takesOut_41 : decode cX5_takesOut 41 = .ok (.getfield 56, 3) := by decide +kernel
theorem dX5_takesOut_44 : decode cX5_takesOut 44 = .ok (.iconst (-1), 1) := by decide +kernel
theorem dX5_takesOut_45 : decode cX5_takesOut 45 = .ok (.if_icmp .ne 33, 3) := by decide +kernel
theorem dX5_takesOut_48 : decode cX5_takesOut 48 = .ok (.aload_n 0, 1) := by decide +kernel
theorem dX5_takesOut_49 : decode cX5_takesOut 49 = .ok (.getfield 7, 3) := by decide +kernel
theorem dX5_takesOut_52 : decode cX5_takesOut 52 = .ok (.bipush 31, 2) := by decide +kernel
theorem dX5_takesOut_54 : decode cX5_takesOut 54 = .ok (.iload 5, 2) := by decide +kernel
theorem dX5_takesOut_56 : decode cX5_takesOut 56 = .ok (.iadd, 1) := by decide +kernel
theorem dX5_takesOut_57 : decode cX5_takesOut 57 = .ok (.iaload, 1) := by decide +kernel
theorem dX5_takesOut_58 : decode cX5_takesOut 58 = .ok (.iload_n 3, 1) := by decide +kernel
theorem dX5_takesOut_59 : decode cX5_takesOut 59 = .ok (.if_icmp .le 19, 3) := by decide +kernel
theorem dX5_takesOut_62 : decode cX5_takesOut 62 = .ok (.aload_n 0, 1) := by decide +kernel
theorem dX5_takesOut_63 : decode cX5_takesOut 63 = .ok (.aload_n 0, 1) := by decide +kernel
theorem dX5_takesOut_64 : decode cX5_takesOut 64 = .ok (.getfield 53, 3) := by decide +kernel
theorem dX5_takesOut_67 : decode cX5_takesOut 67 = .ok (.putfield 56, 3) := by decide +kernel
theorem dX5_takesOut_70 : decode cX5_takesOut 70 = .ok (.aload_n 0, 1) := by decide +kernel
theorem dX5_takesOut_71 : decode cX5_takesOut 71 = .ok (.iload_n 3, 1) := by decide +kernel
theorem dX5_takesOut_72 : decode cX5_takesOut 72 = .ok (.iload 4, 2) := by decide +kernel
theorem dX5_takesOut_74 : decode cX5_takesOut 74 = .ok (.iconst (-1), 1) := by decide +kernel
theorem dX5_takesOut_75 : decode cX5_takesOut 75 = .ok (.invokevirtual 59, 3) := by decide +kernel
theorem dX5_takesOut_78 : decode cX5_takesOut 78 = .ok (.aload_n 0, 1) := by decide +kernel
theorem dX5_takesOut_79 : decode cX5_takesOut 79 = .ok (.aload_n 0, 1) := by decide +kernel
theorem dX5_takesOut_80 : decode cX5_takesOut 80 = .ok (.getfield 7, 3) := by decide +kernel
theorem dX5_takesOut_83 : decode cX5_takesOut 83 = .ok (.bipush 31, 2) := by decide +kernel
theorem dX5_takesOut_85 : decode cX5_takesOut 85 = .ok (.iload 5, 2) := by decide +kernel
