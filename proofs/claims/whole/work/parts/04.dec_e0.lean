theorem d_L_cell_0 : decode k_L_cell 0 = .ok (.iload_n 1, 1) := by decide +kernel
theorem d_L_cell_1 : decode k_L_cell 1 = .ok (.aload_n 0, 1) := by decide +kernel
theorem d_L_cell_2 : decode k_L_cell 2 = .ok (.arraylength, 1) := by decide +kernel
theorem d_L_cell_3 : decode k_L_cell 3 = .ok (.if_icmp .ge 9, 3) := by decide +kernel
theorem d_L_cell_6 : decode k_L_cell 6 = .ok (.aload_n 0, 1) := by decide +kernel
theorem d_L_cell_7 : decode k_L_cell 7 = .ok (.iload_n 1, 1) := by decide +kernel
theorem d_L_cell_8 : decode k_L_cell 8 = .ok (.iaload, 1) := by decide +kernel
theorem d_L_cell_9 : decode k_L_cell 9 = .ok (.goto 4, 3) := by decide +kernel
theorem d_L_cell_12 : decode k_L_cell 12 = .ok (.iconst 0, 1) := by decide +kernel
theorem d_L_cell_13 : decode k_L_cell 13 = .ok (.ireturn, 1) := by decide +kernel
theorem d_L_feed_0 : decode k_L_feed 0 = .ok (.aload 6, 2) := by decide +kernel
theorem d_L_feed_2 : decode k_L_feed 2 = .ok (.iconst 0, 1) := by decide +kernel
theorem d_L_feed_3 : decode k_L_feed 3 = .ok (.aload_n 0, 1) := by decide +kernel
theorem d_L_feed_4 : decode k_L_feed 4 = .ok (.iload_n 1, 1) := by decide +kernel
theorem d_L_feed_5 : decode k_L_feed 5 = .ok (.iload_n 2, 1) := by decide +kernel
theorem d_L_feed_6 : decode k_L_feed 6 = .ok (.iload_n 3, 1) := by decide +kernel
theorem d_L_feed_7 : decode k_L_feed 7 = .ok (.iload 4, 2) := by decide +kernel
theorem d_L_feed_9 : decode k_L_feed 9 = .ok (.iload 5, 2) := by decide +kernel
theorem d_L_feed_11 : decode k_L_feed 11 = .ok (.invokevirtual 7, 3) := by decide +kernel
theorem d_L_feed_14 : decode k_L_feed 14 = .ok (.i2l, 1) := by decide +kernel
theorem d_L_feed_15 : decode k_L_feed 15 = .ok (.lastore, 1) := by decide +kernel
theorem d_L_feed_16 : decode k_L_feed 16 = .ok (.goto 7, 3) := by decide +kernel
theorem d_L_feed_19 : decode k_L_feed 19 = .ok (.astore 7, 2) := by decide +kernel
theorem d_L_feed_21 : decode k_L_feed 21 = .ok (.iconst 1, 1) := by decide +kernel
theorem d_L_feed_22 : decode k_L_feed 22 = .ok (.ireturn, 1) := by decide +kernel
theorem d_L_feed_23 : decode k_L_feed 23 = .ok (.iconst 0, 1) := by decide +kernel
theorem d_L_feed_24 : decode k_L_feed 24 = .ok (.ireturn, 1) := by decide +kernel
theorem d_L_end_0 : decode k_L_end 0 = .ok (.aload_n 2, 1) := by decide +kernel
theorem d_L_end_1 : decode k_L_end 1 = .ok (.iconst 0, 1) := by decide +kernel
theorem d_L_end_2 : decode k_L_end 2 = .ok (.aload_n 0, 1) := by decide +kernel
theorem d_L_end_3 : decode k_L_end 3 = .ok (.iload_n 1, 1) := by decide +kernel
theorem d_L_end_4 : decode k_L_end 4 = .ok (.invokevirtual 15, 3) := by decide +kernel
theorem d_L_end_7 : decode k_L_end 7 = .ok (.i2l, 1) := by decide +kernel
theorem d_L_end_8 : decode k_L_end 8 = .ok (.lastore, 1) := by decide +kernel
theorem d_L_end_9 : decode k_L_end 9 = .ok (.goto 9, 3) := by decide +kernel
theorem d_L_end_12 : decode k_L_end 12 = .ok (.astore_n 3, 1) := by decide +kernel
theorem d_L_end_13 : decode k_L_end 13 = .ok (.iconst 1, 1) := by decide +kernel
theorem d_L_end_14 : decode k_L_end 14 = .ok (.ireturn, 1) := by decide +kernel
theorem d_L_end_15 : decode k_L_end 15 = .ok (.astore_n 3, 1) := by decide +kernel
theorem d_L_end_16 : decode k_L_end 16 = .ok (.iconst 2, 1) := by decide +kernel
theorem d_L_end_17 : decode k_L_end 17 = .ok (.ireturn, 1) := by decide +kernel
theorem d_L_end_18 : decode k_L_end 18 = .ok (.iconst 0, 1) := by decide +kernel
theorem d_L_end_19 : decode k_L_end 19 = .ok (.ireturn, 1) := by decide +kernel
theorem d_L_read_0 : decode k_L_read 0 = .ok (.aload_n 2, 1) := by decide +kernel
theorem d_L_read_1 : decode k_L_read 1 = .ok (.iconst 0, 1) := by decide +kernel
theorem d_L_read_2 : decode k_L_read 2 = .ok (.aload_n 0, 1) := by decide +kernel
theorem d_L_read_3 : decode k_L_read 3 = .ok (.iload_n 1, 1) := by decide +kernel
theorem d_L_read_4 : decode k_L_read 4 = .ok (.invokevirtual 21, 3) := by decide +kernel
theorem d_L_read_7 : decode k_L_read 7 = .ok (.i2l, 1) := by decide +kernel
theorem d_L_read_8 : decode k_L_read 8 = .ok (.lastore, 1) := by decide +kernel
theorem d_L_read_9 : decode k_L_read 9 = .ok (.goto 9, 3) := by decide +kernel
theorem d_L_read_12 : decode k_L_read 12 = .ok (.astore_n 3, 1) := by decide +kernel
theorem d_L_read_13 : decode k_L_read 13 = .ok (.iconst 1, 1) := by decide +kernel
theorem d_L_read_14 : decode k_L_read 14 = .ok (.ireturn, 1) := by decide +kernel
theorem d_L_read_15 : decode k_L_read 15 = .ok (.astore_n 3, 1) := by decide +kernel
theorem d_L_read_16 : decode k_L_read 16 = .ok (.iconst 2, 1) := by decide +kernel
theorem d_L_read_17 : decode k_L_read 17 = .ok (.ireturn, 1) := by decide +kernel
theorem d_L_read_18 : decode k_L_read 18 = .ok (.iconst 0, 1) := by decide +kernel
theorem d_L_read_19 : decode k_L_read 19 = .ok (.ireturn, 1) := by decide +kernel
theorem d_L_fault_0 : decode k_L_fault 0 = .ok (.aload_n 2, 1) := by decide +kernel
theorem d_L_fault_1 : decode k_L_fault 1 = .ok (.iconst 0, 1) := by decide +kernel
theorem d_L_fault_2 : decode k_L_fault 2 = .ok (.aload_n 0, 1) := by decide +kernel
theorem d_L_fault_3 : decode k_L_fault 3 = .ok (.iload_n 1, 1) := by decide +kernel
theorem d_L_fault_4 : decode k_L_fault 4 = .ok (.invokevirtual 26, 3) := by decide +kernel
theorem d_L_fault_7 : decode k_L_fault 7 = .ok (.i2l, 1) := by decide +kernel
theorem d_L_fault_8 : decode k_L_fault 8 = .ok (.lastore, 1) := by decide +kernel
theorem d_L_fault_9 : decode k_L_fault 9 = .ok (.goto 6, 3) := by decide +kernel
theorem d_L_fault_12 : decode k_L_fault 12 = .ok (.astore_n 3, 1) := by decide +kernel
theorem d_L_fault_13 : decode k_L_fault 13 = .ok (.iconst 1, 1) := by decide +kernel
theorem d_L_fault_14 : decode k_L_fault 14 = .ok (.ireturn, 1) := by decide +kernel
theorem d_L_fault_15 : decode k_L_fault 15 = .ok (.iconst 0, 1) := by decide +kernel
theorem d_L_fault_16 : decode k_L_fault 16 = .ok (.ireturn, 1) := by decide +kernel
theorem d_L_write_0 : decode k_L_write 0 = .ok (.aload_n 2, 1) := by decide +kernel
theorem d_L_write_1 : decode k_L_write 1 = .ok (.iconst 0, 1) := by decide +kernel
theorem d_L_write_2 : decode k_L_write 2 = .ok (.aload_n 0, 1) := by decide +kernel
theorem d_L_write_3 : decode k_L_write 3 = .ok (.iload_n 1, 1) := by decide +kernel
theorem d_L_write_4 : decode k_L_write 4 = .ok (.invokevirtual 29, 3) := by decide +kernel
theorem d_L_write_7 : decode k_L_write 7 = .ok (.i2l, 1) := by decide +kernel
theorem d_L_write_8 : decode k_L_write 8 = .ok (.lastore, 1) := by decide +kernel
theorem d_L_write_9 : decode k_L_write 9 = .ok (.goto 12, 3) := by decide +kernel
theorem d_L_write_12 : decode k_L_write 12 = .ok (.astore_n 3, 1) := by decide +kernel
theorem d_L_write_13 : decode k_L_write 13 = .ok (.iconst 1, 1) := by decide +kernel
theorem d_L_write_14 : decode k_L_write 14 = .ok (.ireturn, 1) := by decide +kernel
theorem d_L_write_15 : decode k_L_write 15 = .ok (.astore_n 3, 1) := by decide +kernel
theorem d_L_write_16 : decode k_L_write 16 = .ok (.iconst 2, 1) := by decide +kernel
theorem d_L_write_17 : decode k_L_write 17 = .ok (.ireturn, 1) := by decide +kernel
theorem d_L_write_18 : decode k_L_write 18 = .ok (.astore_n 3, 1) := by decide +kernel
theorem d_L_write_19 : decode k_L_write 19 = .ok (.iconst 3, 1) := by decide +kernel
theorem d_L_write_20 : decode k_L_write 20 = .ok (.ireturn, 1) := by decide +kernel
theorem d_L_write_21 : decode k_L_write 21 = .ok (.iconst 0, 1) := by decide +kernel
theorem d_L_write_22 : decode k_L_write 22 = .ok (.ireturn, 1) := by decide +kernel
theorem d_L_same_0 : decode k_L_same 0 = .ok (.aload_n 3, 1) := by decide +kernel
theorem d_L_same_1 : decode k_L_same 1 = .ok (.iconst 0, 1) := by decide +kernel
theorem d_L_same_2 : decode k_L_same 2 = .ok (.aload_n 0, 1) := by decide +kernel
theorem d_L_same_3 : decode k_L_same 3 = .ok (.iload_n 1, 1) := by decide +kernel
theorem d_L_same_4 : decode k_L_same 4 = .ok (.iload_n 2, 1) := by decide +kernel
theorem d_L_same_5 : decode k_L_same 5 = .ok (.invokevirtual 34, 3) := by decide +kernel
theorem d_L_same_8 : decode k_L_same 8 = .ok (.ifCond .eq 7, 3) := by decide +kernel
theorem d_L_same_11 : decode k_L_same 11 = .ok (.lconst 1, 1) := by decide +kernel
theorem d_L_same_12 : decode k_L_same 12 = .ok (.goto 4, 3) := by decide +kernel
theorem d_L_same_15 : decode k_L_same 15 = .ok (.lconst 0, 1) := by decide +kernel
theorem d_L_same_16 : decode k_L_same 16 = .ok (.lastore, 1) := by decide +kernel
theorem d_L_same_17 : decode k_L_same 17 = .ok (.goto 7, 3) := by decide +kernel
theorem d_L_same_20 : decode k_L_same 20 = .ok (.astore 4, 2) := by decide +kernel
theorem d_L_same_22 : decode k_L_same 22 = .ok (.iconst 1, 1) := by decide +kernel
theorem d_L_same_23 : decode k_L_same 23 = .ok (.ireturn, 1) := by decide +kernel
theorem d_L_same_24 : decode k_L_same 24 = .ok (.iconst 0, 1) := by decide +kernel
theorem d_L_same_25 : decode k_L_same 25 = .ok (.ireturn, 1) := by decide +kernel
theorem d_L_plan_0 : decode k_L_plan 0 = .ok (.aload_n 3, 1) := by decide +kernel
theorem d_L_plan_1 : decode k_L_plan 1 = .ok (.iconst 0, 1) := by decide +kernel
theorem d_L_plan_2 : decode k_L_plan 2 = .ok (.aload_n 0, 1) := by decide +kernel
theorem d_L_plan_3 : decode k_L_plan 3 = .ok (.iload_n 1, 1) := by decide +kernel
theorem d_L_plan_4 : decode k_L_plan 4 = .ok (.iload_n 2, 1) := by decide +kernel
theorem d_L_plan_5 : decode k_L_plan 5 = .ok (.invokevirtual 38, 3) := by decide +kernel
theorem d_L_plan_8 : decode k_L_plan 8 = .ok (.i2l, 1) := by decide +kernel
theorem d_L_plan_9 : decode k_L_plan 9 = .ok (.lastore, 1) := by decide +kernel
theorem d_L_plan_10 : decode k_L_plan 10 = .ok (.goto 7, 3) := by decide +kernel
theorem d_L_plan_13 : decode k_L_plan 13 = .ok (.astore 4, 2) := by decide +kernel
theorem d_L_plan_15 : decode k_L_plan 15 = .ok (.iconst 1, 1) := by decide +kernel
theorem d_L_plan_16 : decode k_L_plan 16 = .ok (.ireturn, 1) := by decide +kernel
theorem d_L_plan_17 : decode k_L_plan 17 = .ok (.iconst 0, 1) := by decide +kernel
theorem d_L_plan_18 : decode k_L_plan 18 = .ok (.ireturn, 1) := by decide +kernel
theorem d_L_ordinate_0 : decode k_L_ordinate 0 = .ok (.aload 4, 2) := by decide +kernel
theorem d_L_ordinate_2 : decode k_L_ordinate 2 = .ok (.iconst 0, 1) := by decide +kernel
theorem d_L_ordinate_3 : decode k_L_ordinate 3 = .ok (.aload_n 0, 1) := by decide +kernel
theorem d_L_ordinate_4 : decode k_L_ordinate 4 = .ok (.iload_n 1, 1) := by decide +kernel
theorem d_L_ordinate_5 : decode k_L_ordinate 5 = .ok (.iload_n 2, 1) := by decide +kernel
theorem d_L_ordinate_6 : decode k_L_ordinate 6 = .ok (.iload_n 3, 1) := by decide +kernel
theorem d_L_ordinate_7 : decode k_L_ordinate 7 = .ok (.invokevirtual 42, 3) := by decide +kernel
theorem d_L_ordinate_10 : decode k_L_ordinate 10 = .ok (.i2l, 1) := by decide +kernel
theorem d_L_ordinate_11 : decode k_L_ordinate 11 = .ok (.lastore, 1) := by decide +kernel
theorem d_L_ordinate_12 : decode k_L_ordinate 12 = .ok (.goto 7, 3) := by decide +kernel
theorem d_L_ordinate_15 : decode k_L_ordinate 15 = .ok (.astore 5, 2) := by decide +kernel
theorem d_L_ordinate_17 : decode k_L_ordinate 17 = .ok (.iconst 1, 1) := by decide +kernel
theorem d_L_ordinate_18 : decode k_L_ordinate 18 = .ok (.ireturn, 1) := by decide +kernel
theorem d_L_ordinate_19 : decode k_L_ordinate 19 = .ok (.iconst 0, 1) := by decide +kernel
theorem d_L_ordinate_20 : decode k_L_ordinate 20 = .ok (.ireturn, 1) := by decide +kernel
theorem d_L_byteAt_0 : decode k_L_byteAt 0 = .ok (.aload_n 2, 1) := by decide +kernel
theorem d_L_byteAt_1 : decode k_L_byteAt 1 = .ok (.iconst 0, 1) := by decide +kernel
theorem d_L_byteAt_2 : decode k_L_byteAt 2 = .ok (.aload_n 0, 1) := by decide +kernel
theorem d_L_byteAt_3 : decode k_L_byteAt 3 = .ok (.iload_n 1, 1) := by decide +kernel
theorem d_L_byteAt_4 : decode k_L_byteAt 4 = .ok (.invokevirtual 46, 3) := by decide +kernel
theorem d_L_byteAt_7 : decode k_L_byteAt 7 = .ok (.i2l, 1) := by decide +kernel
theorem d_L_byteAt_8 : decode k_L_byteAt 8 = .ok (.lastore, 1) := by decide +kernel
theorem d_L_byteAt_9 : decode k_L_byteAt 9 = .ok (.goto 6, 3) := by decide +kernel
theorem d_L_byteAt_12 : decode k_L_byteAt 12 = .ok (.astore_n 3, 1) := by decide +kernel
theorem d_L_byteAt_13 : decode k_L_byteAt 13 = .ok (.iconst 1, 1) := by decide +kernel
theorem d_L_byteAt_14 : decode k_L_byteAt 14 = .ok (.ireturn, 1) := by decide +kernel
theorem d_L_byteAt_15 : decode k_L_byteAt 15 = .ok (.iconst 0, 1) := by decide +kernel
theorem d_L_byteAt_16 : decode k_L_byteAt 16 = .ok (.ireturn, 1) := by decide +kernel
theorem d_L_count_0 : decode k_L_count 0 = .ok (.aload_n 3, 1) := by decide +kernel
theorem d_L_count_1 : decode k_L_count 1 = .ok (.iconst 0, 1) := by decide +kernel
theorem d_L_count_2 : decode k_L_count 2 = .ok (.aload_n 0, 1) := by decide +kernel
theorem d_L_count_3 : decode k_L_count 3 = .ok (.iload_n 1, 1) := by decide +kernel
theorem d_L_count_4 : decode k_L_count 4 = .ok (.iload_n 2, 1) := by decide +kernel
theorem d_L_count_5 : decode k_L_count 5 = .ok (.invokevirtual 49, 3) := by decide +kernel
theorem d_L_count_8 : decode k_L_count 8 = .ok (.i2l, 1) := by decide +kernel
theorem d_L_count_9 : decode k_L_count 9 = .ok (.lastore, 1) := by decide +kernel
theorem d_L_count_10 : decode k_L_count 10 = .ok (.goto 7, 3) := by decide +kernel
theorem d_L_count_13 : decode k_L_count 13 = .ok (.astore 4, 2) := by decide +kernel
theorem d_L_count_15 : decode k_L_count 15 = .ok (.iconst 1, 1) := by decide +kernel
theorem d_L_count_16 : decode k_L_count 16 = .ok (.ireturn, 1) := by decide +kernel
theorem d_L_count_17 : decode k_L_count 17 = .ok (.iconst 0, 1) := by decide +kernel
theorem d_L_count_18 : decode k_L_count 18 = .ok (.ireturn, 1) := by decide +kernel
theorem d_L_law_0 : decode k_L_law 0 = .ok (.new 8, 3) := by decide +kernel
theorem d_L_law_3 : decode k_L_law 3 = .ok (.dup, 1) := by decide +kernel
theorem d_L_law_4 : decode k_L_law 4 = .ok (.aload_n 0, 1) := by decide +kernel
theorem d_L_law_5 : decode k_L_law 5 = .ok (.iconst 0, 1) := by decide +kernel
theorem d_L_law_6 : decode k_L_law 6 = .ok (.invokestatic 52, 3) := by decide +kernel
theorem d_L_law_9 : decode k_L_law 9 = .ok (.aload_n 0, 1) := by decide +kernel
theorem d_L_law_10 : decode k_L_law 10 = .ok (.iconst 1, 1) := by decide +kernel
theorem d_L_law_11 : decode k_L_law 11 = .ok (.invokestatic 52, 3) := by decide +kernel
theorem d_L_law_14 : decode k_L_law 14 = .ok (.aload_n 0, 1) := by decide +kernel
theorem d_L_law_15 : decode k_L_law 15 = .ok (.iconst 2, 1) := by decide +kernel
theorem d_L_law_16 : decode k_L_law 16 = .ok (.invokestatic 52, 3) := by decide +kernel
theorem d_L_law_19 : decode k_L_law 19 = .ok (.invokespecial 58, 3) := by decide +kernel
theorem d_L_law_22 : decode k_L_law 22 = .ok (.astore_n 1, 1) := by decide +kernel
theorem d_L_law_23 : decode k_L_law 23 = .ok (.new 61, 3) := by decide +kernel
theorem d_L_law_26 : decode k_L_law 26 = .ok (.dup, 1) := by decide +kernel
theorem d_L_law_27 : decode k_L_law 27 = .ok (.aload_n 0, 1) := by decide +kernel
theorem d_L_law_28 : decode k_L_law 28 = .ok (.iconst 0, 1) := by decide +kernel
theorem d_L_law_29 : decode k_L_law 29 = .ok (.invokestatic 52, 3) := by decide +kernel
theorem d_L_law_32 : decode k_L_law 32 = .ok (.aload_n 0, 1) := by decide +kernel
theorem d_L_law_33 : decode k_L_law 33 = .ok (.iconst 1, 1) := by decide +kernel
theorem d_L_law_34 : decode k_L_law 34 = .ok (.invokestatic 52, 3) := by decide +kernel
theorem d_L_law_37 : decode k_L_law 37 = .ok (.aload_n 0, 1) := by decide +kernel
theorem d_L_law_38 : decode k_L_law 38 = .ok (.iconst 2, 1) := by decide +kernel
theorem d_L_law_39 : decode k_L_law 39 = .ok (.invokestatic 52, 3) := by decide +kernel
theorem d_L_law_42 : decode k_L_law 42 = .ok (.invokespecial 63, 3) := by decide +kernel
theorem d_L_law_45 : decode k_L_law 45 = .ok (.astore_n 2, 1) := by decide +kernel
theorem d_L_law_46 : decode k_L_law 46 = .ok (.iconst 1, 1) := by decide +kernel
theorem d_L_law_47 : decode k_L_law 47 = .ok (.newarray .long, 2) := by decide +kernel
theorem d_L_law_49 : decode k_L_law 49 = .ok (.astore_n 3, 1) := by decide +kernel
theorem d_L_law_50 : decode k_L_law 50 = .ok (.iconst 3, 1) := by decide +kernel
theorem d_L_law_51 : decode k_L_law 51 = .ok (.istore 4, 2) := by decide +kernel
theorem d_L_law_53 : decode k_L_law 53 = .ok (.iload 4, 2) := by decide +kernel
theorem d_L_law_55 : decode k_L_law 55 = .ok (.aload_n 0, 1) := by decide +kernel
theorem d_L_law_56 : decode k_L_law 56 = .ok (.arraylength, 1) := by decide +kernel
theorem d_L_law_57 : decode k_L_law 57 = .ok (.bipush 6, 2) := by decide +kernel
theorem d_L_law_59 : decode k_L_law 59 = .ok (.isub, 1) := by decide +kernel
theorem d_L_law_60 : decode k_L_law 60 = .ok (.if_icmp .gt 762, 3) := by decide +kernel
theorem d_L_law_63 : decode k_L_law 63 = .ok (.aload_n 0, 1) := by decide +kernel
theorem d_L_law_64 : decode k_L_law 64 = .ok (.iload 4, 2) := by decide +kernel
theorem d_L_law_66 : decode k_L_law 66 = .ok (.iaload, 1) := by decide +kernel
theorem d_L_law_67 : decode k_L_law 67 = .ok (.bipush 15, 2) := by decide +kernel
theorem d_L_law_69 : decode k_L_law 69 = .ok (.iand, 1) := by decide +kernel
theorem d_L_law_70 : decode k_L_law 70 = .ok (.tableswitch 746 0 10 #[58, 162, 218, 274, 330, 386, 399, 474, 542, 622, 678], 58) := by decide +kernel
theorem d_L_law_128 : decode k_L_law 128 = .ok (.aload_n 1, 1) := by decide +kernel
theorem d_L_law_129 : decode k_L_law 129 = .ok (.aload_n 0, 1) := by decide +kernel
theorem d_L_law_130 : decode k_L_law 130 = .ok (.iload 4, 2) := by decide +kernel
theorem d_L_law_132 : decode k_L_law 132 = .ok (.iconst 1, 1) := by decide +kernel
theorem d_L_law_133 : decode k_L_law 133 = .ok (.iadd, 1) := by decide +kernel
theorem d_L_law_134 : decode k_L_law 134 = .ok (.iaload, 1) := by decide +kernel
theorem d_L_law_135 : decode k_L_law 135 = .ok (.aload_n 0, 1) := by decide +kernel
theorem d_L_law_136 : decode k_L_law 136 = .ok (.iload 4, 2) := by decide +kernel
theorem d_L_law_138 : decode k_L_law 138 = .ok (.iconst 2, 1) := by decide +kernel
theorem d_L_law_139 : decode k_L_law 139 = .ok (.iadd, 1) := by decide +kernel
theorem d_L_law_140 : decode k_L_law 140 = .ok (.iaload, 1) := by decide +kernel
theorem d_L_law_141 : decode k_L_law 141 = .ok (.aload_n 0, 1) := by decide +kernel
theorem d_L_law_142 : decode k_L_law 142 = .ok (.iload 4, 2) := by decide +kernel
theorem d_L_law_144 : decode k_L_law 144 = .ok (.iconst 3, 1) := by decide +kernel
theorem d_L_law_145 : decode k_L_law 145 = .ok (.iadd, 1) := by decide +kernel
theorem d_L_law_146 : decode k_L_law 146 = .ok (.iaload, 1) := by decide +kernel
theorem d_L_law_147 : decode k_L_law 147 = .ok (.aload_n 0, 1) := by decide +kernel
theorem d_L_law_148 : decode k_L_law 148 = .ok (.iload 4, 2) := by decide +kernel
theorem d_L_law_150 : decode k_L_law 150 = .ok (.iconst 4, 1) := by decide +kernel
theorem d_L_law_151 : decode k_L_law 151 = .ok (.iadd, 1) := by decide +kernel
theorem d_L_law_152 : decode k_L_law 152 = .ok (.iaload, 1) := by decide +kernel
theorem d_L_law_153 : decode k_L_law 153 = .ok (.aload_n 0, 1) := by decide +kernel
theorem d_L_law_154 : decode k_L_law 154 = .ok (.iload 4, 2) := by decide +kernel
theorem d_L_law_156 : decode k_L_law 156 = .ok (.iconst 5, 1) := by decide +kernel
theorem d_L_law_157 : decode k_L_law 157 = .ok (.iadd, 1) := by decide +kernel
theorem d_L_law_158 : decode k_L_law 158 = .ok (.iaload, 1) := by decide +kernel
theorem d_L_law_159 : decode k_L_law 159 = .ok (.aload_n 3, 1) := by decide +kernel
theorem d_L_law_160 : decode k_L_law 160 = .ok (.invokestatic 64, 3) := by decide +kernel
theorem d_L_law_163 : decode k_L_law 163 = .ok (.istore 5, 2) := by decide +kernel
theorem d_L_law_165 : decode k_L_law 165 = .ok (.aload_n 2, 1) := by decide +kernel
theorem d_L_law_166 : decode k_L_law 166 = .ok (.aload_n 0, 1) := by decide +kernel
theorem d_L_law_167 : decode k_L_law 167 = .ok (.iload 4, 2) := by decide +kernel
theorem d_L_law_169 : decode k_L_law 169 = .ok (.iconst 1, 1) := by decide +kernel
theorem d_L_law_170 : decode k_L_law 170 = .ok (.iadd, 1) := by decide +kernel
theorem d_L_law_171 : decode k_L_law 171 = .ok (.iaload, 1) := by decide +kernel
theorem d_L_law_172 : decode k_L_law 172 = .ok (.aload_n 0, 1) := by decide +kernel
theorem d_L_law_173 : decode k_L_law 173 = .ok (.iload 4, 2) := by decide +kernel
theorem d_L_law_175 : decode k_L_law 175 = .ok (.iconst 2, 1) := by decide +kernel
theorem d_L_law_176 : decode k_L_law 176 = .ok (.iadd, 1) := by decide +kernel
theorem d_L_law_177 : decode k_L_law 177 = .ok (.iaload, 1) := by decide +kernel
theorem d_L_law_178 : decode k_L_law 178 = .ok (.aload_n 0, 1) := by decide +kernel
theorem d_L_law_179 : decode k_L_law 179 = .ok (.iload 4, 2) := by decide +kernel
theorem d_L_law_181 : decode k_L_law 181 = .ok (.iconst 3, 1) := by decide +kernel
theorem d_L_law_182 : decode k_L_law 182 = .ok (.iadd, 1) := by decide +kernel
theorem d_L_law_183 : decode k_L_law 183 = .ok (.iaload, 1) := by decide +kernel
theorem d_L_law_184 : decode k_L_law 184 = .ok (.aload_n 0, 1) := by decide +kernel
theorem d_L_law_185 : decode k_L_law 185 = .ok (.iload 4, 2) := by decide +kernel
theorem d_L_law_187 : decode k_L_law 187 = .ok (.iconst 4, 1) := by decide +kernel
theorem d_L_law_188 : decode k_L_law 188 = .ok (.iadd, 1) := by decide +kernel
theorem d_L_law_189 : decode k_L_law 189 = .ok (.iaload, 1) := by decide +kernel
theorem d_L_law_190 : decode k_L_law 190 = .ok (.aload_n 0, 1) := by decide +kernel
theorem d_L_law_191 : decode k_L_law 191 = .ok (.iload 4, 2) := by decide +kernel
theorem d_L_law_193 : decode k_L_law 193 = .ok (.iconst 5, 1) := by decide +kernel
theorem d_L_law_194 : decode k_L_law 194 = .ok (.iadd, 1) := by decide +kernel
theorem d_L_law_195 : decode k_L_law 195 = .ok (.iaload, 1) := by decide +kernel
theorem d_L_law_196 : decode k_L_law 196 = .ok (.invokevirtual 67, 3) := by decide +kernel
theorem d_L_law_199 : decode k_L_law 199 = .ok (.istore 6, 2) := by decide +kernel
theorem d_L_law_201 : decode k_L_law 201 = .ok (.aload_n 2, 1) := by decide +kernel
theorem d_L_law_202 : decode k_L_law 202 = .ok (.invokevirtual 68, 3) := by decide +kernel
theorem d_L_law_205 : decode k_L_law 205 = .ok (.iload 5, 2) := by decide +kernel
theorem d_L_law_207 : decode k_L_law 207 = .ok (.if_icmp .eq 5, 3) := by decide +kernel
theorem d_L_law_210 : decode k_L_law 210 = .ok (.iconst 0, 1) := by decide +kernel
theorem d_L_law_211 : decode k_L_law 211 = .ok (.ireturn, 1) := by decide +kernel
theorem d_L_law_212 : decode k_L_law 212 = .ok (.iload 5, 2) := by decide +kernel
theorem d_L_law_214 : decode k_L_law 214 = .ok (.ifCond .ne 15, 3) := by decide +kernel
theorem d_L_law_217 : decode k_L_law 217 = .ok (.aload_n 3, 1) := by decide +kernel
theorem d_L_law_218 : decode k_L_law 218 = .ok (.iconst 0, 1) := by decide +kernel
theorem d_L_law_219 : decode k_L_law 219 = .ok (.laload, 1) := by decide +kernel
theorem d_L_law_220 : decode k_L_law 220 = .ok (.iload 6, 2) := by decide +kernel
theorem d_L_law_222 : decode k_L_law 222 = .ok (.i2l, 1) := by decide +kernel
theorem d_L_law_223 : decode k_L_law 223 = .ok (.lcmp, 1) := by decide +kernel
theorem d_L_law_224 : decode k_L_law 224 = .ok (.ifCond .eq 5, 3) := by decide +kernel
theorem d_L_law_227 : decode k_L_law 227 = .ok (.iconst 0, 1) := by decide +kernel
theorem d_L_law_228 : decode k_L_law 228 = .ok (.ireturn, 1) := by decide +kernel
theorem d_L_law_229 : decode k_L_law 229 = .ok (.goto 587, 3) := by decide +kernel
theorem d_L_law_232 : decode k_L_law 232 = .ok (.aload_n 1, 1) := by decide +kernel
theorem d_L_law_233 : decode k_L_law 233 = .ok (.aload_n 0, 1) := by decide +kernel
theorem d_L_law_234 : decode k_L_law 234 = .ok (.iload 4, 2) := by decide +kernel
theorem d_L_law_236 : decode k_L_law 236 = .ok (.iconst 1, 1) := by decide +kernel
theorem d_L_law_237 : decode k_L_law 237 = .ok (.iadd, 1) := by decide +kernel
theorem d_L_law_238 : decode k_L_law 238 = .ok (.iaload, 1) := by decide +kernel
theorem d_L_law_239 : decode k_L_law 239 = .ok (.aload_n 3, 1) := by decide +kernel
theorem d_L_law_240 : decode k_L_law 240 = .ok (.invokestatic 72, 3) := by decide +kernel
theorem d_L_law_243 : decode k_L_law 243 = .ok (.istore 5, 2) := by decide +kernel
theorem d_L_law_245 : decode k_L_law 245 = .ok (.aload_n 2, 1) := by decide +kernel
theorem d_L_law_246 : decode k_L_law 246 = .ok (.aload_n 0, 1) := by decide +kernel
theorem d_L_law_247 : decode k_L_law 247 = .ok (.iload 4, 2) := by decide +kernel
theorem d_L_law_249 : decode k_L_law 249 = .ok (.iconst 1, 1) := by decide +kernel
theorem d_L_law_250 : decode k_L_law 250 = .ok (.iadd, 1) := by decide +kernel
theorem d_L_law_251 : decode k_L_law 251 = .ok (.iaload, 1) := by decide +kernel
theorem d_L_law_252 : decode k_L_law 252 = .ok (.invokevirtual 75, 3) := by decide +kernel
theorem d_L_law_255 : decode k_L_law 255 = .ok (.istore 6, 2) := by decide +kernel
theorem d_L_law_257 : decode k_L_law 257 = .ok (.aload_n 2, 1) := by decide +kernel
theorem d_L_law_258 : decode k_L_law 258 = .ok (.invokevirtual 68, 3) := by decide +kernel
theorem d_L_law_261 : decode k_L_law 261 = .ok (.iload 5, 2) := by decide +kernel
theorem d_L_law_263 : decode k_L_law 263 = .ok (.if_icmp .eq 5, 3) := by decide +kernel
theorem d_L_law_266 : decode k_L_law 266 = .ok (.iconst 0, 1) := by decide +kernel
theorem d_L_law_267 : decode k_L_law 267 = .ok (.ireturn, 1) := by decide +kernel
theorem d_L_law_268 : decode k_L_law 268 = .ok (.iload 5, 2) := by decide +kernel
theorem d_L_law_270 : decode k_L_law 270 = .ok (.ifCond .ne 15, 3) := by decide +kernel
theorem d_L_law_273 : decode k_L_law 273 = .ok (.aload_n 3, 1) := by decide +kernel
theorem d_L_law_274 : decode k_L_law 274 = .ok (.iconst 0, 1) := by decide +kernel
theorem d_L_law_275 : decode k_L_law 275 = .ok (.laload, 1) := by decide +kernel
theorem d_L_law_276 : decode k_L_law 276 = .ok (.iload 6, 2) := by decide +kernel
theorem d_L_law_278 : decode k_L_law 278 = .ok (.i2l, 1) := by decide +kernel
theorem d_L_law_279 : decode k_L_law 279 = .ok (.lcmp, 1) := by decide +kernel
theorem d_L_law_280 : decode k_L_law 280 = .ok (.ifCond .eq 5, 3) := by decide +kernel
theorem d_L_law_283 : decode k_L_law 283 = .ok (.iconst 0, 1) := by decide +kernel
theorem d_L_law_284 : decode k_L_law 284 = .ok (.ireturn, 1) := by decide +kernel
theorem d_L_law_285 : decode k_L_law 285 = .ok (.goto 531, 3) := by decide +kernel
theorem d_L_law_288 : decode k_L_law 288 = .ok (.aload_n 1, 1) := by decide +kernel
theorem d_L_law_289 : decode k_L_law 289 = .ok (.aload_n 0, 1) := by decide +kernel
theorem d_L_law_290 : decode k_L_law 290 = .ok (.iload 4, 2) := by decide +kernel
theorem d_L_law_292 : decode k_L_law 292 = .ok (.iconst 1, 1) := by decide +kernel
theorem d_L_law_293 : decode k_L_law 293 = .ok (.iadd, 1) := by decide +kernel
theorem d_L_law_294 : decode k_L_law 294 = .ok (.iaload, 1) := by decide +kernel
theorem d_L_law_295 : decode k_L_law 295 = .ok (.aload_n 3, 1) := by decide +kernel
theorem d_L_law_296 : decode k_L_law 296 = .ok (.invokestatic 76, 3) := by decide +kernel
theorem d_L_law_299 : decode k_L_law 299 = .ok (.istore 5, 2) := by decide +kernel
theorem d_L_law_301 : decode k_L_law 301 = .ok (.aload_n 2, 1) := by decide +kernel
theorem d_L_law_302 : decode k_L_law 302 = .ok (.aload_n 0, 1) := by decide +kernel
theorem d_L_law_303 : decode k_L_law 303 = .ok (.iload 4, 2) := by decide +kernel
theorem d_L_law_305 : decode k_L_law 305 = .ok (.iconst 1, 1) := by decide +kernel
theorem d_L_law_306 : decode k_L_law 306 = .ok (.iadd, 1) := by decide +kernel
theorem d_L_law_307 : decode k_L_law 307 = .ok (.iaload, 1) := by decide +kernel
theorem d_L_law_308 : decode k_L_law 308 = .ok (.invokevirtual 78, 3) := by decide +kernel
theorem d_L_law_311 : decode k_L_law 311 = .ok (.istore 6, 2) := by decide +kernel
theorem d_L_law_313 : decode k_L_law 313 = .ok (.aload_n 2, 1) := by decide +kernel
theorem d_L_law_314 : decode k_L_law 314 = .ok (.invokevirtual 68, 3) := by decide +kernel
theorem d_L_law_317 : decode k_L_law 317 = .ok (.iload 5, 2) := by decide +kernel
theorem d_L_law_319 : decode k_L_law 319 = .ok (.if_icmp .eq 5, 3) := by decide +kernel
theorem d_L_law_322 : decode k_L_law 322 = .ok (.iconst 0, 1) := by decide +kernel
theorem d_L_law_323 : decode k_L_law 323 = .ok (.ireturn, 1) := by decide +kernel
theorem d_L_law_324 : decode k_L_law 324 = .ok (.iload 5, 2) := by decide +kernel
theorem d_L_law_326 : decode k_L_law 326 = .ok (.ifCond .ne 15, 3) := by decide +kernel
theorem d_L_law_329 : decode k_L_law 329 = .ok (.aload_n 3, 1) := by decide +kernel
theorem d_L_law_330 : decode k_L_law 330 = .ok (.iconst 0, 1) := by decide +kernel
theorem d_L_law_331 : decode k_L_law 331 = .ok (.laload, 1) := by decide +kernel
theorem d_L_law_332 : decode k_L_law 332 = .ok (.iload 6, 2) := by decide +kernel
theorem d_L_law_334 : decode k_L_law 334 = .ok (.i2l, 1) := by decide +kernel
theorem d_L_law_335 : decode k_L_law 335 = .ok (.lcmp, 1) := by decide +kernel
theorem d_L_law_336 : decode k_L_law 336 = .ok (.ifCond .eq 5, 3) := by decide +kernel
theorem d_L_law_339 : decode k_L_law 339 = .ok (.iconst 0, 1) := by decide +kernel
theorem d_L_law_340 : decode k_L_law 340 = .ok (.ireturn, 1) := by decide +kernel
theorem d_L_law_341 : decode k_L_law 341 = .ok (.goto 475, 3) := by decide +kernel
theorem d_L_law_344 : decode k_L_law 344 = .ok (.aload_n 1, 1) := by decide +kernel
theorem d_L_law_345 : decode k_L_law 345 = .ok (.aload_n 0, 1) := by decide +kernel
theorem d_L_law_346 : decode k_L_law 346 = .ok (.iload 4, 2) := by decide +kernel
theorem d_L_law_348 : decode k_L_law 348 = .ok (.iconst 1, 1) := by decide +kernel
theorem d_L_law_349 : decode k_L_law 349 = .ok (.iadd, 1) := by decide +kernel
theorem d_L_law_350 : decode k_L_law 350 = .ok (.iaload, 1) := by decide +kernel
theorem d_L_law_351 : decode k_L_law 351 = .ok (.aload_n 3, 1) := by decide +kernel
theorem d_L_law_352 : decode k_L_law 352 = .ok (.invokestatic 79, 3) := by decide +kernel
theorem d_L_law_355 : decode k_L_law 355 = .ok (.istore 5, 2) := by decide +kernel
theorem d_L_law_357 : decode k_L_law 357 = .ok (.aload_n 2, 1) := by decide +kernel
theorem d_L_law_358 : decode k_L_law 358 = .ok (.aload_n 0, 1) := by decide +kernel
theorem d_L_law_359 : decode k_L_law 359 = .ok (.iload 4, 2) := by decide +kernel
theorem d_L_law_361 : decode k_L_law 361 = .ok (.iconst 1, 1) := by decide +kernel
theorem d_L_law_362 : decode k_L_law 362 = .ok (.iadd, 1) := by decide +kernel
theorem d_L_law_363 : decode k_L_law 363 = .ok (.iaload, 1) := by decide +kernel
theorem d_L_law_364 : decode k_L_law 364 = .ok (.invokevirtual 81, 3) := by decide +kernel
theorem d_L_law_367 : decode k_L_law 367 = .ok (.istore 6, 2) := by decide +kernel
theorem d_L_law_369 : decode k_L_law 369 = .ok (.aload_n 2, 1) := by decide +kernel
theorem d_L_law_370 : decode k_L_law 370 = .ok (.invokevirtual 68, 3) := by decide +kernel
theorem d_L_law_373 : decode k_L_law 373 = .ok (.iload 5, 2) := by decide +kernel
theorem d_L_law_375 : decode k_L_law 375 = .ok (.if_icmp .eq 5, 3) := by decide +kernel
theorem d_L_law_378 : decode k_L_law 378 = .ok (.iconst 0, 1) := by decide +kernel
theorem d_L_law_379 : decode k_L_law 379 = .ok (.ireturn, 1) := by decide +kernel
theorem d_L_law_380 : decode k_L_law 380 = .ok (.iload 5, 2) := by decide +kernel
theorem d_L_law_382 : decode k_L_law 382 = .ok (.ifCond .ne 15, 3) := by decide +kernel
theorem d_L_law_385 : decode k_L_law 385 = .ok (.aload_n 3, 1) := by decide +kernel
theorem d_L_law_386 : decode k_L_law 386 = .ok (.iconst 0, 1) := by decide +kernel
theorem d_L_law_387 : decode k_L_law 387 = .ok (.laload, 1) := by decide +kernel
theorem d_L_law_388 : decode k_L_law 388 = .ok (.iload 6, 2) := by decide +kernel
theorem d_L_law_390 : decode k_L_law 390 = .ok (.i2l, 1) := by decide +kernel
theorem d_L_law_391 : decode k_L_law 391 = .ok (.lcmp, 1) := by decide +kernel
theorem d_L_law_392 : decode k_L_law 392 = .ok (.ifCond .eq 5, 3) := by decide +kernel
theorem d_L_law_395 : decode k_L_law 395 = .ok (.iconst 0, 1) := by decide +kernel
theorem d_L_law_396 : decode k_L_law 396 = .ok (.ireturn, 1) := by decide +kernel
theorem d_L_law_397 : decode k_L_law 397 = .ok (.goto 419, 3) := by decide +kernel
theorem d_L_law_400 : decode k_L_law 400 = .ok (.aload_n 1, 1) := by decide +kernel
theorem d_L_law_401 : decode k_L_law 401 = .ok (.aload_n 0, 1) := by decide +kernel
theorem d_L_law_402 : decode k_L_law 402 = .ok (.iload 4, 2) := by decide +kernel
theorem d_L_law_404 : decode k_L_law 404 = .ok (.iconst 1, 1) := by decide +kernel
theorem d_L_law_405 : decode k_L_law 405 = .ok (.iadd, 1) := by decide +kernel
theorem d_L_law_406 : decode k_L_law 406 = .ok (.iaload, 1) := by decide +kernel
theorem d_L_law_407 : decode k_L_law 407 = .ok (.aload_n 3, 1) := by decide +kernel
theorem d_L_law_408 : decode k_L_law 408 = .ok (.invokestatic 82, 3) := by decide +kernel
theorem d_L_law_411 : decode k_L_law 411 = .ok (.istore 5, 2) := by decide +kernel
theorem d_L_law_413 : decode k_L_law 413 = .ok (.aload_n 2, 1) := by decide +kernel
theorem d_L_law_414 : decode k_L_law 414 = .ok (.aload_n 0, 1) := by decide +kernel
theorem d_L_law_415 : decode k_L_law 415 = .ok (.iload 4, 2) := by decide +kernel
theorem d_L_law_417 : decode k_L_law 417 = .ok (.iconst 1, 1) := by decide +kernel
theorem d_L_law_418 : decode k_L_law 418 = .ok (.iadd, 1) := by decide +kernel
theorem d_L_law_419 : decode k_L_law 419 = .ok (.iaload, 1) := by decide +kernel
theorem d_L_law_420 : decode k_L_law 420 = .ok (.invokevirtual 84, 3) := by decide +kernel
theorem d_L_law_423 : decode k_L_law 423 = .ok (.istore 6, 2) := by decide +kernel
theorem d_L_law_425 : decode k_L_law 425 = .ok (.aload_n 2, 1) := by decide +kernel
theorem d_L_law_426 : decode k_L_law 426 = .ok (.invokevirtual 68, 3) := by decide +kernel
theorem d_L_law_429 : decode k_L_law 429 = .ok (.iload 5, 2) := by decide +kernel
theorem d_L_law_431 : decode k_L_law 431 = .ok (.if_icmp .eq 5, 3) := by decide +kernel
theorem d_L_law_434 : decode k_L_law 434 = .ok (.iconst 0, 1) := by decide +kernel
theorem d_L_law_435 : decode k_L_law 435 = .ok (.ireturn, 1) := by decide +kernel
theorem d_L_law_436 : decode k_L_law 436 = .ok (.iload 5, 2) := by decide +kernel
theorem d_L_law_438 : decode k_L_law 438 = .ok (.ifCond .ne 15, 3) := by decide +kernel
theorem d_L_law_441 : decode k_L_law 441 = .ok (.aload_n 3, 1) := by decide +kernel
theorem d_L_law_442 : decode k_L_law 442 = .ok (.iconst 0, 1) := by decide +kernel
theorem d_L_law_443 : decode k_L_law 443 = .ok (.laload, 1) := by decide +kernel
theorem d_L_law_444 : decode k_L_law 444 = .ok (.iload 6, 2) := by decide +kernel
theorem d_L_law_446 : decode k_L_law 446 = .ok (.i2l, 1) := by decide +kernel
theorem d_L_law_447 : decode k_L_law 447 = .ok (.lcmp, 1) := by decide +kernel
theorem d_L_law_448 : decode k_L_law 448 = .ok (.ifCond .eq 5, 3) := by decide +kernel
theorem d_L_law_451 : decode k_L_law 451 = .ok (.iconst 0, 1) := by decide +kernel
theorem d_L_law_452 : decode k_L_law 452 = .ok (.ireturn, 1) := by decide +kernel
theorem d_L_law_453 : decode k_L_law 453 = .ok (.goto 363, 3) := by decide +kernel
theorem d_L_law_456 : decode k_L_law 456 = .ok (.aload_n 1, 1) := by decide +kernel
theorem d_L_law_457 : decode k_L_law 457 = .ok (.invokevirtual 85, 3) := by decide +kernel
theorem d_L_law_460 : decode k_L_law 460 = .ok (.aload_n 2, 1) := by decide +kernel
theorem d_L_law_461 : decode k_L_law 461 = .ok (.invokevirtual 88, 3) := by decide +kernel
theorem d_L_law_464 : decode k_L_law 464 = .ok (.if_icmp .eq 352, 3) := by decide +kernel
theorem d_L_law_467 : decode k_L_law 467 = .ok (.iconst 0, 1) := by decide +kernel
theorem d_L_law_468 : decode k_L_law 468 = .ok (.ireturn, 1) := by decide +kernel
theorem d_L_law_469 : decode k_L_law 469 = .ok (.aload_n 1, 1) := by decide +kernel
theorem d_L_law_470 : decode k_L_law 470 = .ok (.aload_n 0, 1) := by decide +kernel
theorem d_L_law_471 : decode k_L_law 471 = .ok (.iload 4, 2) := by decide +kernel
theorem d_L_law_473 : decode k_L_law 473 = .ok (.iconst 1, 1) := by decide +kernel
theorem d_L_law_474 : decode k_L_law 474 = .ok (.iadd, 1) := by decide +kernel
theorem d_L_law_475 : decode k_L_law 475 = .ok (.iaload, 1) := by decide +kernel
theorem d_L_law_476 : decode k_L_law 476 = .ok (.aload_n 0, 1) := by decide +kernel
theorem d_L_law_477 : decode k_L_law 477 = .ok (.iload 4, 2) := by decide +kernel
theorem d_L_law_479 : decode k_L_law 479 = .ok (.iconst 2, 1) := by decide +kernel
theorem d_L_law_480 : decode k_L_law 480 = .ok (.iadd, 1) := by decide +kernel
theorem d_L_law_481 : decode k_L_law 481 = .ok (.iaload, 1) := by decide +kernel
theorem d_L_law_482 : decode k_L_law 482 = .ok (.aload_n 3, 1) := by decide +kernel
theorem d_L_law_483 : decode k_L_law 483 = .ok (.invokestatic 89, 3) := by decide +kernel
theorem d_L_law_486 : decode k_L_law 486 = .ok (.istore 5, 2) := by decide +kernel
theorem d_L_law_488 : decode k_L_law 488 = .ok (.aload_n 2, 1) := by decide +kernel
theorem d_L_law_489 : decode k_L_law 489 = .ok (.aload_n 0, 1) := by decide +kernel
theorem d_L_law_490 : decode k_L_law 490 = .ok (.iload 4, 2) := by decide +kernel
theorem d_L_law_492 : decode k_L_law 492 = .ok (.iconst 1, 1) := by decide +kernel
theorem d_L_law_493 : decode k_L_law 493 = .ok (.iadd, 1) := by decide +kernel
theorem d_L_law_494 : decode k_L_law 494 = .ok (.iaload, 1) := by decide +kernel
theorem d_L_law_495 : decode k_L_law 495 = .ok (.aload_n 0, 1) := by decide +kernel
theorem d_L_law_496 : decode k_L_law 496 = .ok (.iload 4, 2) := by decide +kernel
theorem d_L_law_498 : decode k_L_law 498 = .ok (.iconst 2, 1) := by decide +kernel
theorem d_L_law_499 : decode k_L_law 499 = .ok (.iadd, 1) := by decide +kernel
theorem d_L_law_500 : decode k_L_law 500 = .ok (.iaload, 1) := by decide +kernel
theorem d_L_law_501 : decode k_L_law 501 = .ok (.invokevirtual 92, 3) := by decide +kernel
theorem d_L_law_504 : decode k_L_law 504 = .ok (.istore 6, 2) := by decide +kernel
theorem d_L_law_506 : decode k_L_law 506 = .ok (.aload_n 2, 1) := by decide +kernel
theorem d_L_law_507 : decode k_L_law 507 = .ok (.invokevirtual 68, 3) := by decide +kernel
theorem d_L_law_510 : decode k_L_law 510 = .ok (.iload 5, 2) := by decide +kernel
theorem d_L_law_512 : decode k_L_law 512 = .ok (.if_icmp .eq 5, 3) := by decide +kernel
theorem d_L_law_515 : decode k_L_law 515 = .ok (.iconst 0, 1) := by decide +kernel
theorem d_L_law_516 : decode k_L_law 516 = .ok (.ireturn, 1) := by decide +kernel
theorem d_L_law_517 : decode k_L_law 517 = .ok (.iload 5, 2) := by decide +kernel
theorem d_L_law_519 : decode k_L_law 519 = .ok (.ifCond .ne 22, 3) := by decide +kernel
theorem d_L_law_522 : decode k_L_law 522 = .ok (.aload_n 3, 1) := by decide +kernel
theorem d_L_law_523 : decode k_L_law 523 = .ok (.iconst 0, 1) := by decide +kernel
theorem d_L_law_524 : decode k_L_law 524 = .ok (.laload, 1) := by decide +kernel
theorem d_L_law_525 : decode k_L_law 525 = .ok (.iload 6, 2) := by decide +kernel
theorem d_L_law_527 : decode k_L_law 527 = .ok (.ifCond .eq 7, 3) := by decide +kernel
theorem d_L_law_530 : decode k_L_law 530 = .ok (.lconst 1, 1) := by decide +kernel
theorem d_L_law_531 : decode k_L_law 531 = .ok (.goto 4, 3) := by decide +kernel
theorem d_L_law_534 : decode k_L_law 534 = .ok (.lconst 0, 1) := by decide +kernel
theorem d_L_law_535 : decode k_L_law 535 = .ok (.lcmp, 1) := by decide +kernel
theorem d_L_law_536 : decode k_L_law 536 = .ok (.ifCond .eq 5, 3) := by decide +kernel
theorem d_L_law_539 : decode k_L_law 539 = .ok (.iconst 0, 1) := by decide +kernel
theorem d_L_law_540 : decode k_L_law 540 = .ok (.ireturn, 1) := by decide +kernel
theorem d_L_law_541 : decode k_L_law 541 = .ok (.goto 275, 3) := by decide +kernel
theorem d_L_law_544 : decode k_L_law 544 = .ok (.aload_n 1, 1) := by decide +kernel
theorem d_L_law_545 : decode k_L_law 545 = .ok (.aload_n 0, 1) := by decide +kernel
theorem d_L_law_546 : decode k_L_law 546 = .ok (.iload 4, 2) := by decide +kernel
theorem d_L_law_548 : decode k_L_law 548 = .ok (.iconst 1, 1) := by decide +kernel
theorem d_L_law_549 : decode k_L_law 549 = .ok (.iadd, 1) := by decide +kernel
theorem d_L_law_550 : decode k_L_law 550 = .ok (.iaload, 1) := by decide +kernel
theorem d_L_law_551 : decode k_L_law 551 = .ok (.aload_n 0, 1) := by decide +kernel
theorem d_L_law_552 : decode k_L_law 552 = .ok (.iload 4, 2) := by decide +kernel
theorem d_L_law_554 : decode k_L_law 554 = .ok (.iconst 2, 1) := by decide +kernel
theorem d_L_law_555 : decode k_L_law 555 = .ok (.iadd, 1) := by decide +kernel
theorem d_L_law_556 : decode k_L_law 556 = .ok (.iaload, 1) := by decide +kernel
theorem d_L_law_557 : decode k_L_law 557 = .ok (.aload_n 3, 1) := by decide +kernel
theorem d_L_law_558 : decode k_L_law 558 = .ok (.invokestatic 93, 3) := by decide +kernel
theorem d_L_law_561 : decode k_L_law 561 = .ok (.istore 5, 2) := by decide +kernel
theorem d_L_law_563 : decode k_L_law 563 = .ok (.aload_n 2, 1) := by decide +kernel
theorem d_L_law_564 : decode k_L_law 564 = .ok (.aload_n 0, 1) := by decide +kernel
theorem d_L_law_565 : decode k_L_law 565 = .ok (.iload 4, 2) := by decide +kernel
theorem d_L_law_567 : decode k_L_law 567 = .ok (.iconst 1, 1) := by decide +kernel
theorem d_L_law_568 : decode k_L_law 568 = .ok (.iadd, 1) := by decide +kernel
theorem d_L_law_569 : decode k_L_law 569 = .ok (.iaload, 1) := by decide +kernel
theorem d_L_law_570 : decode k_L_law 570 = .ok (.aload_n 0, 1) := by decide +kernel
theorem d_L_law_571 : decode k_L_law 571 = .ok (.iload 4, 2) := by decide +kernel
theorem d_L_law_573 : decode k_L_law 573 = .ok (.iconst 2, 1) := by decide +kernel
theorem d_L_law_574 : decode k_L_law 574 = .ok (.iadd, 1) := by decide +kernel
theorem d_L_law_575 : decode k_L_law 575 = .ok (.iaload, 1) := by decide +kernel
theorem d_L_law_576 : decode k_L_law 576 = .ok (.invokevirtual 95, 3) := by decide +kernel
theorem d_L_law_579 : decode k_L_law 579 = .ok (.istore 6, 2) := by decide +kernel
theorem d_L_law_581 : decode k_L_law 581 = .ok (.aload_n 2, 1) := by decide +kernel
theorem d_L_law_582 : decode k_L_law 582 = .ok (.invokevirtual 68, 3) := by decide +kernel
theorem d_L_law_585 : decode k_L_law 585 = .ok (.iload 5, 2) := by decide +kernel
theorem d_L_law_587 : decode k_L_law 587 = .ok (.if_icmp .eq 5, 3) := by decide +kernel
theorem d_L_law_590 : decode k_L_law 590 = .ok (.iconst 0, 1) := by decide +kernel
theorem d_L_law_591 : decode k_L_law 591 = .ok (.ireturn, 1) := by decide +kernel
theorem d_L_law_592 : decode k_L_law 592 = .ok (.iload 5, 2) := by decide +kernel
theorem d_L_law_594 : decode k_L_law 594 = .ok (.ifCond .ne 15, 3) := by decide +kernel
theorem d_L_law_597 : decode k_L_law 597 = .ok (.aload_n 3, 1) := by decide +kernel
theorem d_L_law_598 : decode k_L_law 598 = .ok (.iconst 0, 1) := by decide +kernel
theorem d_L_law_599 : decode k_L_law 599 = .ok (.laload, 1) := by decide +kernel
theorem d_L_law_600 : decode k_L_law 600 = .ok (.iload 6, 2) := by decide +kernel
theorem d_L_law_602 : decode k_L_law 602 = .ok (.i2l, 1) := by decide +kernel
theorem d_L_law_603 : decode k_L_law 603 = .ok (.lcmp, 1) := by decide +kernel
theorem d_L_law_604 : decode k_L_law 604 = .ok (.ifCond .eq 5, 3) := by decide +kernel
theorem d_L_law_607 : decode k_L_law 607 = .ok (.iconst 0, 1) := by decide +kernel
theorem d_L_law_608 : decode k_L_law 608 = .ok (.ireturn, 1) := by decide +kernel
theorem d_L_law_609 : decode k_L_law 609 = .ok (.goto 207, 3) := by decide +kernel
theorem d_L_law_612 : decode k_L_law 612 = .ok (.aload_n 1, 1) := by decide +kernel
theorem d_L_law_613 : decode k_L_law 613 = .ok (.aload_n 0, 1) := by decide +kernel
theorem d_L_law_614 : decode k_L_law 614 = .ok (.iload 4, 2) := by decide +kernel
theorem d_L_law_616 : decode k_L_law 616 = .ok (.iconst 1, 1) := by decide +kernel
theorem d_L_law_617 : decode k_L_law 617 = .ok (.iadd, 1) := by decide +kernel
theorem d_L_law_618 : decode k_L_law 618 = .ok (.iaload, 1) := by decide +kernel
theorem d_L_law_619 : decode k_L_law 619 = .ok (.aload_n 0, 1) := by decide +kernel
theorem d_L_law_620 : decode k_L_law 620 = .ok (.iload 4, 2) := by decide +kernel
theorem d_L_law_622 : decode k_L_law 622 = .ok (.iconst 2, 1) := by decide +kernel
theorem d_L_law_623 : decode k_L_law 623 = .ok (.iadd, 1) := by decide +kernel
theorem d_L_law_624 : decode k_L_law 624 = .ok (.iaload, 1) := by decide +kernel
theorem d_L_law_625 : decode k_L_law 625 = .ok (.aload_n 0, 1) := by decide +kernel
theorem d_L_law_626 : decode k_L_law 626 = .ok (.iload 4, 2) := by decide +kernel
theorem d_L_law_628 : decode k_L_law 628 = .ok (.iconst 3, 1) := by decide +kernel
theorem d_L_law_629 : decode k_L_law 629 = .ok (.iadd, 1) := by decide +kernel
theorem d_L_law_630 : decode k_L_law 630 = .ok (.iaload, 1) := by decide +kernel
theorem d_L_law_631 : decode k_L_law 631 = .ok (.aload_n 3, 1) := by decide +kernel
theorem d_L_law_632 : decode k_L_law 632 = .ok (.invokestatic 96, 3) := by decide +kernel
theorem d_L_law_635 : decode k_L_law 635 = .ok (.istore 5, 2) := by decide +kernel
theorem d_L_law_637 : decode k_L_law 637 = .ok (.aload_n 2, 1) := by decide +kernel
theorem d_L_law_638 : decode k_L_law 638 = .ok (.aload_n 0, 1) := by decide +kernel
theorem d_L_law_639 : decode k_L_law 639 = .ok (.iload 4, 2) := by decide +kernel
theorem d_L_law_641 : decode k_L_law 641 = .ok (.iconst 1, 1) := by decide +kernel
theorem d_L_law_642 : decode k_L_law 642 = .ok (.iadd, 1) := by decide +kernel
theorem d_L_law_643 : decode k_L_law 643 = .ok (.iaload, 1) := by decide +kernel
theorem d_L_law_644 : decode k_L_law 644 = .ok (.aload_n 0, 1) := by decide +kernel
theorem d_L_law_645 : decode k_L_law 645 = .ok (.iload 4, 2) := by decide +kernel
theorem d_L_law_647 : decode k_L_law 647 = .ok (.iconst 2, 1) := by decide +kernel
theorem d_L_law_648 : decode k_L_law 648 = .ok (.iadd, 1) := by decide +kernel
theorem d_L_law_649 : decode k_L_law 649 = .ok (.iaload, 1) := by decide +kernel
theorem d_L_law_650 : decode k_L_law 650 = .ok (.aload_n 0, 1) := by decide +kernel
theorem d_L_law_651 : decode k_L_law 651 = .ok (.iload 4, 2) := by decide +kernel
theorem d_L_law_653 : decode k_L_law 653 = .ok (.iconst 3, 1) := by decide +kernel
theorem d_L_law_654 : decode k_L_law 654 = .ok (.iadd, 1) := by decide +kernel
theorem d_L_law_655 : decode k_L_law 655 = .ok (.iaload, 1) := by decide +kernel
theorem d_L_law_656 : decode k_L_law 656 = .ok (.invokevirtual 99, 3) := by decide +kernel
theorem d_L_law_659 : decode k_L_law 659 = .ok (.istore 6, 2) := by decide +kernel
theorem d_L_law_661 : decode k_L_law 661 = .ok (.aload_n 2, 1) := by decide +kernel
theorem d_L_law_662 : decode k_L_law 662 = .ok (.invokevirtual 68, 3) := by decide +kernel
theorem d_L_law_665 : decode k_L_law 665 = .ok (.iload 5, 2) := by decide +kernel
theorem d_L_law_667 : decode k_L_law 667 = .ok (.if_icmp .eq 5, 3) := by decide +kernel
theorem d_L_law_670 : decode k_L_law 670 = .ok (.iconst 0, 1) := by decide +kernel
theorem d_L_law_671 : decode k_L_law 671 = .ok (.ireturn, 1) := by decide +kernel
theorem d_L_law_672 : decode k_L_law 672 = .ok (.iload 5, 2) := by decide +kernel
theorem d_L_law_674 : decode k_L_law 674 = .ok (.ifCond .ne 15, 3) := by decide +kernel
theorem d_L_law_677 : decode k_L_law 677 = .ok (.aload_n 3, 1) := by decide +kernel
theorem d_L_law_678 : decode k_L_law 678 = .ok (.iconst 0, 1) := by decide +kernel
theorem d_L_law_679 : decode k_L_law 679 = .ok (.laload, 1) := by decide +kernel
theorem d_L_law_680 : decode k_L_law 680 = .ok (.iload 6, 2) := by decide +kernel
theorem d_L_law_682 : decode k_L_law 682 = .ok (.i2l, 1) := by decide +kernel
theorem d_L_law_683 : decode k_L_law 683 = .ok (.lcmp, 1) := by decide +kernel
theorem d_L_law_684 : decode k_L_law 684 = .ok (.ifCond .eq 5, 3) := by decide +kernel
theorem d_L_law_687 : decode k_L_law 687 = .ok (.iconst 0, 1) := by decide +kernel
theorem d_L_law_688 : decode k_L_law 688 = .ok (.ireturn, 1) := by decide +kernel
theorem d_L_law_689 : decode k_L_law 689 = .ok (.goto 127, 3) := by decide +kernel
theorem d_L_law_692 : decode k_L_law 692 = .ok (.aload_n 1, 1) := by decide +kernel
theorem d_L_law_693 : decode k_L_law 693 = .ok (.aload_n 0, 1) := by decide +kernel
theorem d_L_law_694 : decode k_L_law 694 = .ok (.iload 4, 2) := by decide +kernel
theorem d_L_law_696 : decode k_L_law 696 = .ok (.iconst 1, 1) := by decide +kernel
theorem d_L_law_697 : decode k_L_law 697 = .ok (.iadd, 1) := by decide +kernel
theorem d_L_law_698 : decode k_L_law 698 = .ok (.iaload, 1) := by decide +kernel
theorem d_L_law_699 : decode k_L_law 699 = .ok (.aload_n 3, 1) := by decide +kernel
theorem d_L_law_700 : decode k_L_law 700 = .ok (.invokestatic 100, 3) := by decide +kernel
theorem d_L_law_703 : decode k_L_law 703 = .ok (.istore 5, 2) := by decide +kernel
theorem d_L_law_705 : decode k_L_law 705 = .ok (.aload_n 2, 1) := by decide +kernel
theorem d_L_law_706 : decode k_L_law 706 = .ok (.aload_n 0, 1) := by decide +kernel
theorem d_L_law_707 : decode k_L_law 707 = .ok (.iload 4, 2) := by decide +kernel
theorem d_L_law_709 : decode k_L_law 709 = .ok (.iconst 1, 1) := by decide +kernel
theorem d_L_law_710 : decode k_L_law 710 = .ok (.iadd, 1) := by decide +kernel
theorem d_L_law_711 : decode k_L_law 711 = .ok (.iaload, 1) := by decide +kernel
theorem d_L_law_712 : decode k_L_law 712 = .ok (.invokevirtual 102, 3) := by decide +kernel
theorem d_L_law_715 : decode k_L_law 715 = .ok (.istore 6, 2) := by decide +kernel
theorem d_L_law_717 : decode k_L_law 717 = .ok (.aload_n 2, 1) := by decide +kernel
theorem d_L_law_718 : decode k_L_law 718 = .ok (.invokevirtual 68, 3) := by decide +kernel
theorem d_L_law_721 : decode k_L_law 721 = .ok (.iload 5, 2) := by decide +kernel
theorem d_L_law_723 : decode k_L_law 723 = .ok (.if_icmp .eq 5, 3) := by decide +kernel
theorem d_L_law_726 : decode k_L_law 726 = .ok (.iconst 0, 1) := by decide +kernel
theorem d_L_law_727 : decode k_L_law 727 = .ok (.ireturn, 1) := by decide +kernel
theorem d_L_law_728 : decode k_L_law 728 = .ok (.iload 5, 2) := by decide +kernel
theorem d_L_law_730 : decode k_L_law 730 = .ok (.ifCond .ne 15, 3) := by decide +kernel
theorem d_L_law_733 : decode k_L_law 733 = .ok (.aload_n 3, 1) := by decide +kernel
theorem d_L_law_734 : decode k_L_law 734 = .ok (.iconst 0, 1) := by decide +kernel
theorem d_L_law_735 : decode k_L_law 735 = .ok (.laload, 1) := by decide +kernel
theorem d_L_law_736 : decode k_L_law 736 = .ok (.iload 6, 2) := by decide +kernel
theorem d_L_law_738 : decode k_L_law 738 = .ok (.i2l, 1) := by decide +kernel
theorem d_L_law_739 : decode k_L_law 739 = .ok (.lcmp, 1) := by decide +kernel
theorem d_L_law_740 : decode k_L_law 740 = .ok (.ifCond .eq 5, 3) := by decide +kernel
theorem d_L_law_743 : decode k_L_law 743 = .ok (.iconst 0, 1) := by decide +kernel
theorem d_L_law_744 : decode k_L_law 744 = .ok (.ireturn, 1) := by decide +kernel
theorem d_L_law_745 : decode k_L_law 745 = .ok (.goto 71, 3) := by decide +kernel
theorem d_L_law_748 : decode k_L_law 748 = .ok (.aload_n 1, 1) := by decide +kernel
theorem d_L_law_749 : decode k_L_law 749 = .ok (.aload_n 0, 1) := by decide +kernel
theorem d_L_law_750 : decode k_L_law 750 = .ok (.iload 4, 2) := by decide +kernel
theorem d_L_law_752 : decode k_L_law 752 = .ok (.iconst 1, 1) := by decide +kernel
theorem d_L_law_753 : decode k_L_law 753 = .ok (.iadd, 1) := by decide +kernel
theorem d_L_law_754 : decode k_L_law 754 = .ok (.iaload, 1) := by decide +kernel
theorem d_L_law_755 : decode k_L_law 755 = .ok (.aload_n 0, 1) := by decide +kernel
theorem d_L_law_756 : decode k_L_law 756 = .ok (.iload 4, 2) := by decide +kernel
theorem d_L_law_758 : decode k_L_law 758 = .ok (.iconst 2, 1) := by decide +kernel
theorem d_L_law_759 : decode k_L_law 759 = .ok (.iadd, 1) := by decide +kernel
theorem d_L_law_760 : decode k_L_law 760 = .ok (.iaload, 1) := by decide +kernel
theorem d_L_law_761 : decode k_L_law 761 = .ok (.aload_n 3, 1) := by decide +kernel
theorem d_L_law_762 : decode k_L_law 762 = .ok (.invokestatic 103, 3) := by decide +kernel
theorem d_L_law_765 : decode k_L_law 765 = .ok (.istore 5, 2) := by decide +kernel
theorem d_L_law_767 : decode k_L_law 767 = .ok (.aload_n 2, 1) := by decide +kernel
theorem d_L_law_768 : decode k_L_law 768 = .ok (.aload_n 0, 1) := by decide +kernel
theorem d_L_law_769 : decode k_L_law 769 = .ok (.iload 4, 2) := by decide +kernel
theorem d_L_law_771 : decode k_L_law 771 = .ok (.iconst 1, 1) := by decide +kernel
theorem d_L_law_772 : decode k_L_law 772 = .ok (.iadd, 1) := by decide +kernel
theorem d_L_law_773 : decode k_L_law 773 = .ok (.iaload, 1) := by decide +kernel
theorem d_L_law_774 : decode k_L_law 774 = .ok (.aload_n 0, 1) := by decide +kernel
theorem d_L_law_775 : decode k_L_law 775 = .ok (.iload 4, 2) := by decide +kernel
theorem d_L_law_777 : decode k_L_law 777 = .ok (.iconst 2, 1) := by decide +kernel
theorem d_L_law_778 : decode k_L_law 778 = .ok (.iadd, 1) := by decide +kernel
theorem d_L_law_779 : decode k_L_law 779 = .ok (.iaload, 1) := by decide +kernel
theorem d_L_law_780 : decode k_L_law 780 = .ok (.invokevirtual 105, 3) := by decide +kernel
theorem d_L_law_783 : decode k_L_law 783 = .ok (.istore 6, 2) := by decide +kernel
theorem d_L_law_785 : decode k_L_law 785 = .ok (.aload_n 2, 1) := by decide +kernel
theorem d_L_law_786 : decode k_L_law 786 = .ok (.invokevirtual 68, 3) := by decide +kernel
theorem d_L_law_789 : decode k_L_law 789 = .ok (.iload 5, 2) := by decide +kernel
theorem d_L_law_791 : decode k_L_law 791 = .ok (.if_icmp .eq 5, 3) := by decide +kernel
theorem d_L_law_794 : decode k_L_law 794 = .ok (.iconst 0, 1) := by decide +kernel
theorem d_L_law_795 : decode k_L_law 795 = .ok (.ireturn, 1) := by decide +kernel
theorem d_L_law_796 : decode k_L_law 796 = .ok (.iload 5, 2) := by decide +kernel
theorem d_L_law_798 : decode k_L_law 798 = .ok (.ifCond .ne 15, 3) := by decide +kernel
theorem d_L_law_801 : decode k_L_law 801 = .ok (.aload_n 3, 1) := by decide +kernel
theorem d_L_law_802 : decode k_L_law 802 = .ok (.iconst 0, 1) := by decide +kernel
theorem d_L_law_803 : decode k_L_law 803 = .ok (.laload, 1) := by decide +kernel
theorem d_L_law_804 : decode k_L_law 804 = .ok (.iload 6, 2) := by decide +kernel
theorem d_L_law_806 : decode k_L_law 806 = .ok (.i2l, 1) := by decide +kernel
theorem d_L_law_807 : decode k_L_law 807 = .ok (.lcmp, 1) := by decide +kernel
theorem d_L_law_808 : decode k_L_law 808 = .ok (.ifCond .eq 5, 3) := by decide +kernel
theorem d_L_law_811 : decode k_L_law 811 = .ok (.iconst 0, 1) := by decide +kernel
theorem d_L_law_812 : decode k_L_law 812 = .ok (.ireturn, 1) := by decide +kernel
theorem d_L_law_813 : decode k_L_law 813 = .ok (.goto 3, 3) := by decide +kernel
theorem d_L_law_816 : decode k_L_law 816 = .ok (.iinc 4 6, 3) := by decide +kernel
theorem d_L_law_819 : decode k_L_law 819 = .ok (.goto (-766), 3) := by decide +kernel
theorem d_L_law_822 : decode k_L_law 822 = .ok (.iconst 1, 1) := by decide +kernel
theorem d_L_law_823 : decode k_L_law 823 = .ok (.ireturn, 1) := by decide +kernel
