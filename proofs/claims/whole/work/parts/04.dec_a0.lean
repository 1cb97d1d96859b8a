theorem d_W_init_0 : decode k_W_init 0 = .ok (.aload_n 0, 1) := by decide +kernel
theorem d_W_init_1 : decode k_W_init 1 = .ok (.invokespecial 3, 3) := by decide +kernel
theorem d_W_init_4 : decode k_W_init 4 = .ok (.aload_n 0, 1) := by decide +kernel
theorem d_W_init_5 : decode k_W_init 5 = .ok (.iconst 4, 1) := by decide +kernel
theorem d_W_init_6 : decode k_W_init 6 = .ok (.anewarray 9, 3) := by decide +kernel
theorem d_W_init_9 : decode k_W_init 9 = .ok (.putfield 11, 3) := by decide +kernel
theorem d_W_init_12 : decode k_W_init 12 = .ok (.iload_n 1, 1) := by decide +kernel
theorem d_W_init_13 : decode k_W_init 13 = .ok (.iconst 3, 1) := by decide +kernel
theorem d_W_init_14 : decode k_W_init 14 = .ok (.iand, 1) := by decide +kernel
theorem d_W_init_15 : decode k_W_init 15 = .ok (.istore 4, 2) := by decide +kernel
theorem d_W_init_17 : decode k_W_init 17 = .ok (.iconst 1, 1) := by decide +kernel
theorem d_W_init_18 : decode k_W_init 18 = .ok (.iload_n 2, 1) := by decide +kernel
theorem d_W_init_19 : decode k_W_init 19 = .ok (.sipush 4096, 3) := by decide +kernel
theorem d_W_init_22 : decode k_W_init 22 = .ok (.invokestatic 15, 3) := by decide +kernel
theorem d_W_init_25 : decode k_W_init 25 = .ok (.invokestatic 21, 3) := by decide +kernel
theorem d_W_init_28 : decode k_W_init 28 = .ok (.istore 5, 2) := by decide +kernel
theorem d_W_init_30 : decode k_W_init 30 = .ok (.iconst 2, 1) := by decide +kernel
theorem d_W_init_31 : decode k_W_init 31 = .ok (.iload_n 3, 1) := by decide +kernel
theorem d_W_init_32 : decode k_W_init 32 = .ok (.sipush 4096, 3) := by decide +kernel
theorem d_W_init_35 : decode k_W_init 35 = .ok (.invokestatic 15, 3) := by decide +kernel
theorem d_W_init_38 : decode k_W_init 38 = .ok (.invokestatic 21, 3) := by decide +kernel
theorem d_W_init_41 : decode k_W_init 41 = .ok (.istore 6, 2) := by decide +kernel
theorem d_W_init_43 : decode k_W_init 43 = .ok (.iconst 0, 1) := by decide +kernel
theorem d_W_init_44 : decode k_W_init 44 = .ok (.istore 7, 2) := by decide +kernel
theorem d_W_init_46 : decode k_W_init 46 = .ok (.iload 7, 2) := by decide +kernel
theorem d_W_init_48 : decode k_W_init 48 = .ok (.iconst 4, 1) := by decide +kernel
theorem d_W_init_49 : decode k_W_init 49 = .ok (.if_icmp .ge 27, 3) := by decide +kernel
theorem d_W_init_52 : decode k_W_init 52 = .ok (.aload_n 0, 1) := by decide +kernel
theorem d_W_init_53 : decode k_W_init 53 = .ok (.getfield 11, 3) := by decide +kernel
theorem d_W_init_56 : decode k_W_init 56 = .ok (.iload 7, 2) := by decide +kernel
theorem d_W_init_58 : decode k_W_init 58 = .ok (.new 9, 3) := by decide +kernel
theorem d_W_init_61 : decode k_W_init 61 = .ok (.dup, 1) := by decide +kernel
theorem d_W_init_62 : decode k_W_init 62 = .ok (.iload 6, 2) := by decide +kernel
theorem d_W_init_64 : decode k_W_init 64 = .ok (.iload 5, 2) := by decide +kernel
theorem d_W_init_66 : decode k_W_init 66 = .ok (.invokespecial 24, 3) := by decide +kernel
theorem d_W_init_69 : decode k_W_init 69 = .ok (.aastore, 1) := by decide +kernel
theorem d_W_init_70 : decode k_W_init 70 = .ok (.iinc 7 1, 3) := by decide +kernel
theorem d_W_init_73 : decode k_W_init 73 = .ok (.goto (-27), 3) := by decide +kernel
theorem d_W_init_76 : decode k_W_init 76 = .ok (.ldc 27, 2) := by decide +kernel
theorem d_W_init_78 : decode k_W_init 78 = .ok (.newarray .byte, 2) := by decide +kernel
theorem d_W_init_80 : decode k_W_init 80 = .ok (.astore 7, 2) := by decide +kernel
theorem d_W_init_82 : decode k_W_init 82 = .ok (.aload_n 0, 1) := by decide +kernel
theorem d_W_init_83 : decode k_W_init 83 = .ok (.aload 7, 2) := by decide +kernel
theorem d_W_init_85 : decode k_W_init 85 = .ok (.putfield 28, 3) := by decide +kernel
theorem d_W_init_88 : decode k_W_init 88 = .ok (.aload_n 0, 1) := by decide +kernel
theorem d_W_init_89 : decode k_W_init 89 = .ok (.new 32, 3) := by decide +kernel
theorem d_W_init_92 : decode k_W_init 92 = .ok (.dup, 1) := by decide +kernel
theorem d_W_init_93 : decode k_W_init 93 = .ok (.aload 7, 2) := by decide +kernel
theorem d_W_init_95 : decode k_W_init 95 = .ok (.iload 4, 2) := by decide +kernel
theorem d_W_init_97 : decode k_W_init 97 = .ok (.new 9, 3) := by decide +kernel
theorem d_W_init_100 : decode k_W_init 100 = .ok (.dup, 1) := by decide +kernel
theorem d_W_init_101 : decode k_W_init 101 = .ok (.iload 6, 2) := by decide +kernel
theorem d_W_init_103 : decode k_W_init 103 = .ok (.iload 5, 2) := by decide +kernel
theorem d_W_init_105 : decode k_W_init 105 = .ok (.invokespecial 24, 3) := by decide +kernel
theorem d_W_init_108 : decode k_W_init 108 = .ok (.invokespecial 34, 3) := by decide +kernel
theorem d_W_init_111 : decode k_W_init 111 = .ok (.putfield 37, 3) := by decide +kernel
theorem d_W_init_114 : decode k_W_init 114 = .ok (.aload_n 0, 1) := by decide +kernel
theorem d_W_init_115 : decode k_W_init 115 = .ok (.new 41, 3) := by decide +kernel
theorem d_W_init_118 : decode k_W_init 118 = .ok (.dup, 1) := by decide +kernel
theorem d_W_init_119 : decode k_W_init 119 = .ok (.iload 4, 2) := by decide +kernel
theorem d_W_init_121 : decode k_W_init 121 = .ok (.invokespecial 43, 3) := by decide +kernel
theorem d_W_init_124 : decode k_W_init 124 = .ok (.putfield 46, 3) := by decide +kernel
theorem d_W_init_127 : decode k_W_init 127 = .ok (.return_, 1) := by decide +kernel
theorem d_W_feed_0 : decode k_W_feed 0 = .ok (.aload_n 0, 1) := by decide +kernel
theorem d_W_feed_1 : decode k_W_feed 1 = .ok (.getfield 50, 3) := by decide +kernel
theorem d_W_feed_4 : decode k_W_feed 4 = .ok (.ldc 54, 2) := by decide +kernel
theorem d_W_feed_6 : decode k_W_feed 6 = .ok (.if_icmp .le 13, 3) := by decide +kernel
theorem d_W_feed_9 : decode k_W_feed 9 = .ok (.new 55, 3) := by decide +kernel
theorem d_W_feed_12 : decode k_W_feed 12 = .ok (.dup, 1) := by decide +kernel
theorem d_W_feed_13 : decode k_W_feed 13 = .ok (.ldc 57, 2) := by decide +kernel
theorem d_W_feed_15 : decode k_W_feed 15 = .ok (.invokespecial 59, 3) := by decide +kernel
theorem d_W_feed_18 : decode k_W_feed 18 = .ok (.athrow, 1) := by decide +kernel
theorem d_W_feed_19 : decode k_W_feed 19 = .ok (.aload_n 0, 1) := by decide +kernel
theorem d_W_feed_20 : decode k_W_feed 20 = .ok (.iload_n 1, 1) := by decide +kernel
theorem d_W_feed_21 : decode k_W_feed 21 = .ok (.invokevirtual 62, 3) := by decide +kernel
theorem d_W_feed_24 : decode k_W_feed 24 = .ok (.aload_n 0, 1) := by decide +kernel
theorem d_W_feed_25 : decode k_W_feed 25 = .ok (.iload_n 2, 1) := by decide +kernel
theorem d_W_feed_26 : decode k_W_feed 26 = .ok (.invokevirtual 62, 3) := by decide +kernel
theorem d_W_feed_29 : decode k_W_feed 29 = .ok (.aload_n 0, 1) := by decide +kernel
theorem d_W_feed_30 : decode k_W_feed 30 = .ok (.iload_n 3, 1) := by decide +kernel
theorem d_W_feed_31 : decode k_W_feed 31 = .ok (.invokevirtual 62, 3) := by decide +kernel
theorem d_W_feed_34 : decode k_W_feed 34 = .ok (.aload_n 0, 1) := by decide +kernel
theorem d_W_feed_35 : decode k_W_feed 35 = .ok (.iload 4, 2) := by decide +kernel
theorem d_W_feed_37 : decode k_W_feed 37 = .ok (.invokevirtual 62, 3) := by decide +kernel
theorem d_W_feed_40 : decode k_W_feed 40 = .ok (.aload_n 0, 1) := by decide +kernel
theorem d_W_feed_41 : decode k_W_feed 41 = .ok (.iload 5, 2) := by decide +kernel
theorem d_W_feed_43 : decode k_W_feed 43 = .ok (.invokevirtual 62, 3) := by decide +kernel
theorem d_W_feed_46 : decode k_W_feed 46 = .ok (.aload_n 0, 1) := by decide +kernel
theorem d_W_feed_47 : decode k_W_feed 47 = .ok (.getfield 50, 3) := by decide +kernel
theorem d_W_feed_50 : decode k_W_feed 50 = .ok (.ireturn, 1) := by decide +kernel
theorem d_W_end_0 : decode k_W_end 0 = .ok (.iload_n 1, 1) := by decide +kernel
theorem d_W_end_1 : decode k_W_end 1 = .ok (.ifCond .lt 9, 3) := by decide +kernel
theorem d_W_end_4 : decode k_W_end 4 = .ok (.iload_n 1, 1) := by decide +kernel
theorem d_W_end_5 : decode k_W_end 5 = .ok (.bipush 20, 2) := by decide +kernel
theorem d_W_end_7 : decode k_W_end 7 = .ok (.if_icmp .le 13, 3) := by decide +kernel
theorem d_W_end_10 : decode k_W_end 10 = .ok (.new 65, 3) := by decide +kernel
theorem d_W_end_13 : decode k_W_end 13 = .ok (.dup, 1) := by decide +kernel
theorem d_W_end_14 : decode k_W_end 14 = .ok (.ldc 67, 2) := by decide +kernel
theorem d_W_end_16 : decode k_W_end 16 = .ok (.invokespecial 69, 3) := by decide +kernel
theorem d_W_end_19 : decode k_W_end 19 = .ok (.athrow, 1) := by decide +kernel
theorem d_W_end_20 : decode k_W_end 20 = .ok (.aload_n 0, 1) := by decide +kernel
theorem d_W_end_21 : decode k_W_end 21 = .ok (.getfield 50, 3) := by decide +kernel
theorem d_W_end_24 : decode k_W_end 24 = .ok (.bipush 20, 2) := by decide +kernel
theorem d_W_end_26 : decode k_W_end 26 = .ok (.if_icmp .ge 13, 3) := by decide +kernel
theorem d_W_end_29 : decode k_W_end 29 = .ok (.new 55, 3) := by decide +kernel
theorem d_W_end_32 : decode k_W_end 32 = .ok (.dup, 1) := by decide +kernel
theorem d_W_end_33 : decode k_W_end 33 = .ok (.ldc 70, 2) := by decide +kernel
theorem d_W_end_35 : decode k_W_end 35 = .ok (.invokespecial 59, 3) := by decide +kernel
theorem d_W_end_38 : decode k_W_end 38 = .ok (.athrow, 1) := by decide +kernel
theorem d_W_end_39 : decode k_W_end 39 = .ok (.aload_n 0, 1) := by decide +kernel
theorem d_W_end_40 : decode k_W_end 40 = .ok (.aload_n 0, 1) := by decide +kernel
theorem d_W_end_41 : decode k_W_end 41 = .ok (.getfield 50, 3) := by decide +kernel
theorem d_W_end_44 : decode k_W_end 44 = .ok (.bipush 20, 2) := by decide +kernel
theorem d_W_end_46 : decode k_W_end 46 = .ok (.isub, 1) := by decide +kernel
theorem d_W_end_47 : decode k_W_end 47 = .ok (.iload_n 1, 1) := by decide +kernel
theorem d_W_end_48 : decode k_W_end 48 = .ok (.iadd, 1) := by decide +kernel
theorem d_W_end_49 : decode k_W_end 49 = .ok (.putfield 50, 3) := by decide +kernel
theorem d_W_end_52 : decode k_W_end 52 = .ok (.aload_n 0, 1) := by decide +kernel
theorem d_W_end_53 : decode k_W_end 53 = .ok (.getfield 50, 3) := by decide +kernel
theorem d_W_end_56 : decode k_W_end 56 = .ok (.ireturn, 1) := by decide +kernel
theorem d_W_read_0 : decode k_W_read 0 = .ok (.aload_n 0, 1) := by decide +kernel
theorem d_W_read_1 : decode k_W_read 1 = .ok (.getfield 50, 3) := by decide +kernel
theorem d_W_read_4 : decode k_W_read 4 = .ok (.istore_n 2, 1) := by decide +kernel
theorem d_W_read_5 : decode k_W_read 5 = .ok (.aload_n 0, 1) := by decide +kernel
theorem d_W_read_6 : decode k_W_read 6 = .ok (.iconst 0, 1) := by decide +kernel
theorem d_W_read_7 : decode k_W_read 7 = .ok (.putfield 50, 3) := by decide +kernel
theorem d_W_read_10 : decode k_W_read 10 = .ok (.aload_n 0, 1) := by decide +kernel
theorem d_W_read_11 : decode k_W_read 11 = .ok (.iload_n 1, 1) := by decide +kernel
theorem d_W_read_12 : decode k_W_read 12 = .ok (.invokevirtual 72, 3) := by decide +kernel
theorem d_W_read_15 : decode k_W_read 15 = .ok (.astore_n 3, 1) := by decide +kernel
theorem d_W_read_16 : decode k_W_read 16 = .ok (.aload_n 3, 1) := by decide +kernel
theorem d_W_read_17 : decode k_W_read 17 = .ok (.invokevirtual 76, 3) := by decide +kernel
theorem d_W_read_20 : decode k_W_read 20 = .ok (.aload_n 0, 1) := by decide +kernel
theorem d_W_read_21 : decode k_W_read 21 = .ok (.getfield 37, 3) := by decide +kernel
theorem d_W_read_24 : decode k_W_read 24 = .ok (.iload_n 2, 1) := by decide +kernel
theorem d_W_read_25 : decode k_W_read 25 = .ok (.invokevirtual 79, 3) := by decide +kernel
theorem d_W_read_28 : decode k_W_read 28 = .ok (.aload_n 3, 1) := by decide +kernel
theorem d_W_read_29 : decode k_W_read 29 = .ok (.aload_n 0, 1) := by decide +kernel
theorem d_W_read_30 : decode k_W_read 30 = .ok (.getfield 37, 3) := by decide +kernel
theorem d_W_read_33 : decode k_W_read 33 = .ok (.getfield 82, 3) := by decide +kernel
theorem d_W_read_36 : decode k_W_read 36 = .ok (.invokevirtual 86, 3) := by decide +kernel
theorem d_W_read_39 : decode k_W_read 39 = .ok (.aload_n 3, 1) := by decide +kernel
theorem d_W_read_40 : decode k_W_read 40 = .ok (.iconst 0, 1) := by decide +kernel
theorem d_W_read_41 : decode k_W_read 41 = .ok (.invokevirtual 90, 3) := by decide +kernel
theorem d_W_read_44 : decode k_W_read 44 = .ok (.ireturn, 1) := by decide +kernel
theorem d_W_fault_0 : decode k_W_fault 0 = .ok (.iload_n 1, 1) := by decide +kernel
theorem d_W_fault_1 : decode k_W_fault 1 = .ok (.ifCond .ne 11, 3) := by decide +kernel
theorem d_W_fault_4 : decode k_W_fault 4 = .ok (.aload_n 0, 1) := by decide +kernel
theorem d_W_fault_5 : decode k_W_fault 5 = .ok (.getfield 37, 3) := by decide +kernel
theorem d_W_fault_8 : decode k_W_fault 8 = .ok (.getfield 94, 3) := by decide +kernel
theorem d_W_fault_11 : decode k_W_fault 11 = .ok (.ireturn, 1) := by decide +kernel
theorem d_W_fault_12 : decode k_W_fault 12 = .ok (.iload_n 1, 1) := by decide +kernel
theorem d_W_fault_13 : decode k_W_fault 13 = .ok (.iconst 1, 1) := by decide +kernel
theorem d_W_fault_14 : decode k_W_fault 14 = .ok (.if_icmp .ne 11, 3) := by decide +kernel
theorem d_W_fault_17 : decode k_W_fault 17 = .ok (.aload_n 0, 1) := by decide +kernel
theorem d_W_fault_18 : decode k_W_fault 18 = .ok (.getfield 37, 3) := by decide +kernel
theorem d_W_fault_21 : decode k_W_fault 21 = .ok (.getfield 97, 3) := by decide +kernel
theorem d_W_fault_24 : decode k_W_fault 24 = .ok (.ireturn, 1) := by decide +kernel
theorem d_W_fault_25 : decode k_W_fault 25 = .ok (.new 100, 3) := by decide +kernel
theorem d_W_fault_28 : decode k_W_fault 28 = .ok (.dup, 1) := by decide +kernel
theorem d_W_fault_29 : decode k_W_fault 29 = .ok (.ldc 102, 2) := by decide +kernel
theorem d_W_fault_31 : decode k_W_fault 31 = .ok (.invokespecial 104, 3) := by decide +kernel
theorem d_W_fault_34 : decode k_W_fault 34 = .ok (.athrow, 1) := by decide +kernel
theorem d_W_write_0 : decode k_W_write 0 = .ok (.aload_n 0, 1) := by decide +kernel
theorem d_W_write_1 : decode k_W_write 1 = .ok (.iload_n 1, 1) := by decide +kernel
theorem d_W_write_2 : decode k_W_write 2 = .ok (.invokevirtual 72, 3) := by decide +kernel
theorem d_W_write_5 : decode k_W_write 5 = .ok (.astore_n 2, 1) := by decide +kernel
theorem d_W_write_6 : decode k_W_write 6 = .ok (.aload_n 2, 1) := by decide +kernel
theorem d_W_write_7 : decode k_W_write 7 = .ok (.invokevirtual 105, 3) := by decide +kernel
theorem d_W_write_10 : decode k_W_write 10 = .ok (.ifCond .eq 13, 3) := by decide +kernel
theorem d_W_write_13 : decode k_W_write 13 = .ok (.new 55, 3) := by decide +kernel
theorem d_W_write_16 : decode k_W_write 16 = .ok (.dup, 1) := by decide +kernel
theorem d_W_write_17 : decode k_W_write 17 = .ok (.ldc 109, 2) := by decide +kernel
theorem d_W_write_19 : decode k_W_write 19 = .ok (.invokespecial 59, 3) := by decide +kernel
theorem d_W_write_22 : decode k_W_write 22 = .ok (.athrow, 1) := by decide +kernel
theorem d_W_write_23 : decode k_W_write 23 = .ok (.aload_n 0, 1) := by decide +kernel
theorem d_W_write_24 : decode k_W_write 24 = .ok (.getfield 46, 3) := by decide +kernel
theorem d_W_write_27 : decode k_W_write 27 = .ok (.aload_n 2, 1) := by decide +kernel
theorem d_W_write_28 : decode k_W_write 28 = .ok (.iconst 0, 1) := by decide +kernel
theorem d_W_write_29 : decode k_W_write 29 = .ok (.invokevirtual 111, 3) := by decide +kernel
theorem d_W_write_32 : decode k_W_write 32 = .ok (.ldc 115, 2) := by decide +kernel
theorem d_W_write_34 : decode k_W_write 34 = .ok (.if_icmp .le 13, 3) := by decide +kernel
theorem d_W_write_37 : decode k_W_write 37 = .ok (.new 116, 3) := by decide +kernel
theorem d_W_write_40 : decode k_W_write 40 = .ok (.dup, 1) := by decide +kernel
theorem d_W_write_41 : decode k_W_write 41 = .ok (.ldc 118, 2) := by decide +kernel
theorem d_W_write_43 : decode k_W_write 43 = .ok (.invokespecial 120, 3) := by decide +kernel
theorem d_W_write_46 : decode k_W_write 46 = .ok (.athrow, 1) := by decide +kernel
theorem d_W_write_47 : decode k_W_write 47 = .ok (.aload_n 0, 1) := by decide +kernel
theorem d_W_write_48 : decode k_W_write 48 = .ok (.getfield 46, 3) := by decide +kernel
theorem d_W_write_51 : decode k_W_write 51 = .ok (.aload_n 0, 1) := by decide +kernel
theorem d_W_write_52 : decode k_W_write 52 = .ok (.getfield 46, 3) := by decide +kernel
theorem d_W_write_55 : decode k_W_write 55 = .ok (.aload_n 2, 1) := by decide +kernel
theorem d_W_write_56 : decode k_W_write 56 = .ok (.iconst 1, 1) := by decide +kernel
theorem d_W_write_57 : decode k_W_write 57 = .ok (.invokevirtual 111, 3) := by decide +kernel
theorem d_W_write_60 : decode k_W_write 60 = .ok (.putfield 121, 3) := by decide +kernel
theorem d_W_write_63 : decode k_W_write 63 = .ok (.aload_n 0, 1) := by decide +kernel
theorem d_W_write_64 : decode k_W_write 64 = .ok (.getfield 46, 3) := by decide +kernel
theorem d_W_write_67 : decode k_W_write 67 = .ok (.getfield 121, 3) := by decide +kernel
theorem d_W_write_70 : decode k_W_write 70 = .ok (.ireturn, 1) := by decide +kernel
theorem d_W_again_0 : decode k_W_again 0 = .ok (.aload_n 0, 1) := by decide +kernel
theorem d_W_again_1 : decode k_W_again 1 = .ok (.aload_n 0, 1) := by decide +kernel
theorem d_W_again_2 : decode k_W_again 2 = .ok (.getfield 46, 3) := by decide +kernel
theorem d_W_again_5 : decode k_W_again 5 = .ok (.getfield 121, 3) := by decide +kernel
theorem d_W_again_8 : decode k_W_again 8 = .ok (.ldc 27, 2) := by decide +kernel
theorem d_W_again_10 : decode k_W_again 10 = .ok (.invokestatic 15, 3) := by decide +kernel
theorem d_W_again_13 : decode k_W_again 13 = .ok (.putfield 50, 3) := by decide +kernel
theorem d_W_again_16 : decode k_W_again 16 = .ok (.aload_n 0, 1) := by decide +kernel
theorem d_W_again_17 : decode k_W_again 17 = .ok (.getfield 46, 3) := by decide +kernel
theorem d_W_again_20 : decode k_W_again 20 = .ok (.getfield 124, 3) := by decide +kernel
theorem d_W_again_23 : decode k_W_again 23 = .ok (.iconst 0, 1) := by decide +kernel
theorem d_W_again_24 : decode k_W_again 24 = .ok (.aload_n 0, 1) := by decide +kernel
theorem d_W_again_25 : decode k_W_again 25 = .ok (.getfield 28, 3) := by decide +kernel
theorem d_W_again_28 : decode k_W_again 28 = .ok (.iconst 0, 1) := by decide +kernel
theorem d_W_again_29 : decode k_W_again 29 = .ok (.aload_n 0, 1) := by decide +kernel
theorem d_W_again_30 : decode k_W_again 30 = .ok (.getfield 50, 3) := by decide +kernel
theorem d_W_again_33 : decode k_W_again 33 = .ok (.invokestatic 127, 3) := by decide +kernel
theorem d_W_again_36 : decode k_W_again 36 = .ok (.aload_n 0, 1) := by decide +kernel
theorem d_W_again_37 : decode k_W_again 37 = .ok (.getfield 50, 3) := by decide +kernel
theorem d_W_again_40 : decode k_W_again 40 = .ok (.ireturn, 1) := by decide +kernel
theorem d_W_same_0 : decode k_W_same 0 = .ok (.aload_n 0, 1) := by decide +kernel
theorem d_W_same_1 : decode k_W_same 1 = .ok (.iload_n 1, 1) := by decide +kernel
theorem d_W_same_2 : decode k_W_same 2 = .ok (.invokevirtual 72, 3) := by decide +kernel
theorem d_W_same_5 : decode k_W_same 5 = .ok (.astore_n 3, 1) := by decide +kernel
theorem d_W_same_6 : decode k_W_same 6 = .ok (.aload_n 0, 1) := by decide +kernel
theorem d_W_same_7 : decode k_W_same 7 = .ok (.iload_n 2, 1) := by decide +kernel
theorem d_W_same_8 : decode k_W_same 8 = .ok (.invokevirtual 72, 3) := by decide +kernel
theorem d_W_same_11 : decode k_W_same 11 = .ok (.astore 4, 2) := by decide +kernel
theorem d_W_same_13 : decode k_W_same 13 = .ok (.aload_n 3, 1) := by decide +kernel
theorem d_W_same_14 : decode k_W_same 14 = .ok (.aload 4, 2) := by decide +kernel
theorem d_W_same_16 : decode k_W_same 16 = .ok (.invokevirtual 133, 3) := by decide +kernel
theorem d_W_same_19 : decode k_W_same 19 = .ok (.ireturn, 1) := by decide +kernel
theorem d_W_plan_0 : decode k_W_plan 0 = .ok (.aload_n 0, 1) := by decide +kernel
theorem d_W_plan_1 : decode k_W_plan 1 = .ok (.iload_n 1, 1) := by decide +kernel
theorem d_W_plan_2 : decode k_W_plan 2 = .ok (.invokevirtual 72, 3) := by decide +kernel
theorem d_W_plan_5 : decode k_W_plan 5 = .ok (.astore_n 3, 1) := by decide +kernel
theorem d_W_plan_6 : decode k_W_plan 6 = .ok (.iload_n 2, 1) := by decide +kernel
theorem d_W_plan_7 : decode k_W_plan 7 = .ok (.ifCond .lt 11, 3) := by decide +kernel
theorem d_W_plan_10 : decode k_W_plan 10 = .ok (.iload_n 2, 1) := by decide +kernel
theorem d_W_plan_11 : decode k_W_plan 11 = .ok (.aload_n 3, 1) := by decide +kernel
theorem d_W_plan_12 : decode k_W_plan 12 = .ok (.getfield 137, 3) := by decide +kernel
theorem d_W_plan_15 : decode k_W_plan 15 = .ok (.if_icmp .lt 13, 3) := by decide +kernel
theorem d_W_plan_18 : decode k_W_plan 18 = .ok (.new 100, 3) := by decide +kernel
theorem d_W_plan_21 : decode k_W_plan 21 = .ok (.dup, 1) := by decide +kernel
theorem d_W_plan_22 : decode k_W_plan 22 = .ok (.ldc 140, 2) := by decide +kernel
theorem d_W_plan_24 : decode k_W_plan 24 = .ok (.invokespecial 104, 3) := by decide +kernel
theorem d_W_plan_27 : decode k_W_plan 27 = .ok (.athrow, 1) := by decide +kernel
theorem d_W_plan_28 : decode k_W_plan 28 = .ok (.aload_n 3, 1) := by decide +kernel
theorem d_W_plan_29 : decode k_W_plan 29 = .ok (.iload_n 2, 1) := by decide +kernel
theorem d_W_plan_30 : decode k_W_plan 30 = .ok (.invokevirtual 90, 3) := by decide +kernel
theorem d_W_plan_33 : decode k_W_plan 33 = .ok (.ireturn, 1) := by decide +kernel
theorem d_W_ordinate_0 : decode k_W_ordinate 0 = .ok (.aload_n 0, 1) := by decide +kernel
theorem d_W_ordinate_1 : decode k_W_ordinate 1 = .ok (.iload_n 1, 1) := by decide +kernel
theorem d_W_ordinate_2 : decode k_W_ordinate 2 = .ok (.invokevirtual 72, 3) := by decide +kernel
theorem d_W_ordinate_5 : decode k_W_ordinate 5 = .ok (.astore 4, 2) := by decide +kernel
theorem d_W_ordinate_7 : decode k_W_ordinate 7 = .ok (.iload_n 2, 1) := by decide +kernel
theorem d_W_ordinate_8 : decode k_W_ordinate 8 = .ok (.ifCond .lt 12, 3) := by decide +kernel
theorem d_W_ordinate_11 : decode k_W_ordinate 11 = .ok (.iload_n 2, 1) := by decide +kernel
theorem d_W_ordinate_12 : decode k_W_ordinate 12 = .ok (.aload 4, 2) := by decide +kernel
theorem d_W_ordinate_14 : decode k_W_ordinate 14 = .ok (.getfield 142, 3) := by decide +kernel
theorem d_W_ordinate_17 : decode k_W_ordinate 17 = .ok (.if_icmp .lt 13, 3) := by decide +kernel
theorem d_W_ordinate_20 : decode k_W_ordinate 20 = .ok (.new 100, 3) := by decide +kernel
theorem d_W_ordinate_23 : decode k_W_ordinate 23 = .ok (.dup, 1) := by decide +kernel
theorem d_W_ordinate_24 : decode k_W_ordinate 24 = .ok (.ldc 145, 2) := by decide +kernel
theorem d_W_ordinate_26 : decode k_W_ordinate 26 = .ok (.invokespecial 104, 3) := by decide +kernel
theorem d_W_ordinate_29 : decode k_W_ordinate 29 = .ok (.athrow, 1) := by decide +kernel
theorem d_W_ordinate_30 : decode k_W_ordinate 30 = .ok (.iload_n 3, 1) := by decide +kernel
theorem d_W_ordinate_31 : decode k_W_ordinate 31 = .ok (.ifCond .lt 8, 3) := by decide +kernel
theorem d_W_ordinate_34 : decode k_W_ordinate 34 = .ok (.iload_n 3, 1) := by decide +kernel
theorem d_W_ordinate_35 : decode k_W_ordinate 35 = .ok (.iconst 1, 1) := by decide +kernel
theorem d_W_ordinate_36 : decode k_W_ordinate 36 = .ok (.if_icmp .le 13, 3) := by decide +kernel
theorem d_W_ordinate_39 : decode k_W_ordinate 39 = .ok (.new 100, 3) := by decide +kernel
theorem d_W_ordinate_42 : decode k_W_ordinate 42 = .ok (.dup, 1) := by decide +kernel
theorem d_W_ordinate_43 : decode k_W_ordinate 43 = .ok (.ldc 147, 2) := by decide +kernel
theorem d_W_ordinate_45 : decode k_W_ordinate 45 = .ok (.invokespecial 104, 3) := by decide +kernel
theorem d_W_ordinate_48 : decode k_W_ordinate 48 = .ok (.athrow, 1) := by decide +kernel
theorem d_W_ordinate_49 : decode k_W_ordinate 49 = .ok (.aload 4, 2) := by decide +kernel
theorem d_W_ordinate_51 : decode k_W_ordinate 51 = .ok (.iload_n 2, 1) := by decide +kernel
theorem d_W_ordinate_52 : decode k_W_ordinate 52 = .ok (.iload_n 3, 1) := by decide +kernel
theorem d_W_ordinate_53 : decode k_W_ordinate 53 = .ok (.invokevirtual 149, 3) := by decide +kernel
theorem d_W_ordinate_56 : decode k_W_ordinate 56 = .ok (.ireturn, 1) := by decide +kernel
theorem d_W_byteAt_0 : decode k_W_byteAt 0 = .ok (.iload_n 1, 1) := by decide +kernel
theorem d_W_byteAt_1 : decode k_W_byteAt 1 = .ok (.ifCond .lt 14, 3) := by decide +kernel
theorem d_W_byteAt_4 : decode k_W_byteAt 4 = .ok (.iload_n 1, 1) := by decide +kernel
theorem d_W_byteAt_5 : decode k_W_byteAt 5 = .ok (.aload_n 0, 1) := by decide +kernel
theorem d_W_byteAt_6 : decode k_W_byteAt 6 = .ok (.getfield 46, 3) := by decide +kernel
theorem d_W_byteAt_9 : decode k_W_byteAt 9 = .ok (.getfield 121, 3) := by decide +kernel
theorem d_W_byteAt_12 : decode k_W_byteAt 12 = .ok (.if_icmp .lt 13, 3) := by decide +kernel
theorem d_W_byteAt_15 : decode k_W_byteAt 15 = .ok (.new 100, 3) := by decide +kernel
theorem d_W_byteAt_18 : decode k_W_byteAt 18 = .ok (.dup, 1) := by decide +kernel
theorem d_W_byteAt_19 : decode k_W_byteAt 19 = .ok (.ldc 152, 2) := by decide +kernel
theorem d_W_byteAt_21 : decode k_W_byteAt 21 = .ok (.invokespecial 104, 3) := by decide +kernel
theorem d_W_byteAt_24 : decode k_W_byteAt 24 = .ok (.athrow, 1) := by decide +kernel
theorem d_W_byteAt_25 : decode k_W_byteAt 25 = .ok (.aload_n 0, 1) := by decide +kernel
theorem d_W_byteAt_26 : decode k_W_byteAt 26 = .ok (.getfield 46, 3) := by decide +kernel
theorem d_W_byteAt_29 : decode k_W_byteAt 29 = .ok (.getfield 124, 3) := by decide +kernel
theorem d_W_byteAt_32 : decode k_W_byteAt 32 = .ok (.iload_n 1, 1) := by decide +kernel
theorem d_W_byteAt_33 : decode k_W_byteAt 33 = .ok (.baload, 1) := by decide +kernel
theorem d_W_byteAt_34 : decode k_W_byteAt 34 = .ok (.sipush 255, 3) := by decide +kernel
theorem d_W_byteAt_37 : decode k_W_byteAt 37 = .ok (.iand, 1) := by decide +kernel
theorem d_W_byteAt_38 : decode k_W_byteAt 38 = .ok (.ireturn, 1) := by decide +kernel
theorem d_W_count_0 : decode k_W_count 0 = .ok (.aload_n 0, 1) := by decide +kernel
theorem d_W_count_1 : decode k_W_count 1 = .ok (.iload_n 1, 1) := by decide +kernel
theorem d_W_count_2 : decode k_W_count 2 = .ok (.invokevirtual 72, 3) := by decide +kernel
theorem d_W_count_5 : decode k_W_count 5 = .ok (.astore_n 3, 1) := by decide +kernel
theorem d_W_count_6 : decode k_W_count 6 = .ok (.iload_n 2, 1) := by decide +kernel
theorem d_W_count_7 : decode k_W_count 7 = .ok (.tableswitch 52 0 3 #[29, 34, 39, 44], 29) := by decide +kernel
theorem d_W_count_36 : decode k_W_count 36 = .ok (.aload_n 3, 1) := by decide +kernel
theorem d_W_count_37 : decode k_W_count 37 = .ok (.getfield 137, 3) := by decide +kernel
theorem d_W_count_40 : decode k_W_count 40 = .ok (.ireturn, 1) := by decide +kernel
theorem d_W_count_41 : decode k_W_count 41 = .ok (.aload_n 3, 1) := by decide +kernel
theorem d_W_count_42 : decode k_W_count 42 = .ok (.getfield 142, 3) := by decide +kernel
theorem d_W_count_45 : decode k_W_count 45 = .ok (.ireturn, 1) := by decide +kernel
theorem d_W_count_46 : decode k_W_count 46 = .ok (.aload_n 0, 1) := by decide +kernel
theorem d_W_count_47 : decode k_W_count 47 = .ok (.getfield 50, 3) := by decide +kernel
theorem d_W_count_50 : decode k_W_count 50 = .ok (.ireturn, 1) := by decide +kernel
theorem d_W_count_51 : decode k_W_count 51 = .ok (.aload_n 0, 1) := by decide +kernel
theorem d_W_count_52 : decode k_W_count 52 = .ok (.getfield 46, 3) := by decide +kernel
theorem d_W_count_55 : decode k_W_count 55 = .ok (.getfield 121, 3) := by decide +kernel
theorem d_W_count_58 : decode k_W_count 58 = .ok (.ireturn, 1) := by decide +kernel
theorem d_W_count_59 : decode k_W_count 59 = .ok (.new 100, 3) := by decide +kernel
theorem d_W_count_62 : decode k_W_count 62 = .ok (.dup, 1) := by decide +kernel
theorem d_W_count_63 : decode k_W_count 63 = .ok (.ldc 154, 2) := by decide +kernel
theorem d_W_count_65 : decode k_W_count 65 = .ok (.invokespecial 104, 3) := by decide +kernel
theorem d_W_count_68 : decode k_W_count 68 = .ok (.athrow, 1) := by decide +kernel
theorem d_W_shapeIn_0 : decode k_W_shapeIn 0 = .ok (.iload_n 1, 1) := by decide +kernel
theorem d_W_shapeIn_1 : decode k_W_shapeIn 1 = .ok (.ifCond .lt 8, 3) := by decide +kernel
theorem d_W_shapeIn_4 : decode k_W_shapeIn 4 = .ok (.iload_n 1, 1) := by decide +kernel
theorem d_W_shapeIn_5 : decode k_W_shapeIn 5 = .ok (.iconst 4, 1) := by decide +kernel
theorem d_W_shapeIn_6 : decode k_W_shapeIn 6 = .ok (.if_icmp .lt 13, 3) := by decide +kernel
theorem d_W_shapeIn_9 : decode k_W_shapeIn 9 = .ok (.new 100, 3) := by decide +kernel
theorem d_W_shapeIn_12 : decode k_W_shapeIn 12 = .ok (.dup, 1) := by decide +kernel
theorem d_W_shapeIn_13 : decode k_W_shapeIn 13 = .ok (.ldc 156, 2) := by decide +kernel
theorem d_W_shapeIn_15 : decode k_W_shapeIn 15 = .ok (.invokespecial 104, 3) := by decide +kernel
theorem d_W_shapeIn_18 : decode k_W_shapeIn 18 = .ok (.athrow, 1) := by decide +kernel
theorem d_W_shapeIn_19 : decode k_W_shapeIn 19 = .ok (.aload_n 0, 1) := by decide +kernel
theorem d_W_shapeIn_20 : decode k_W_shapeIn 20 = .ok (.getfield 11, 3) := by decide +kernel
theorem d_W_shapeIn_23 : decode k_W_shapeIn 23 = .ok (.iload_n 1, 1) := by decide +kernel
theorem d_W_shapeIn_24 : decode k_W_shapeIn 24 = .ok (.aaload, 1) := by decide +kernel
theorem d_W_shapeIn_25 : decode k_W_shapeIn 25 = .ok (.areturn, 1) := by decide +kernel
theorem d_W_feedFour_0 : decode k_W_feedFour 0 = .ok (.bipush 24, 2) := by decide +kernel
theorem d_W_feedFour_2 : decode k_W_feedFour 2 = .ok (.istore_n 2, 1) := by decide +kernel
theorem d_W_feedFour_3 : decode k_W_feedFour 3 = .ok (.iload_n 2, 1) := by decide +kernel
theorem d_W_feedFour_4 : decode k_W_feedFour 4 = .ok (.ifCond .lt 41, 3) := by decide +kernel
theorem d_W_feedFour_7 : decode k_W_feedFour 7 = .ok (.aload_n 0, 1) := by decide +kernel
theorem d_W_feedFour_8 : decode k_W_feedFour 8 = .ok (.getfield 50, 3) := by decide +kernel
theorem d_W_feedFour_11 : decode k_W_feedFour 11 = .ok (.ldc 27, 2) := by decide +kernel
theorem d_W_feedFour_13 : decode k_W_feedFour 13 = .ok (.if_icmp .ge 32, 3) := by decide +kernel
theorem d_W_feedFour_16 : decode k_W_feedFour 16 = .ok (.aload_n 0, 1) := by decide +kernel
theorem d_W_feedFour_17 : decode k_W_feedFour 17 = .ok (.getfield 28, 3) := by decide +kernel
theorem d_W_feedFour_20 : decode k_W_feedFour 20 = .ok (.aload_n 0, 1) := by decide +kernel
theorem d_W_feedFour_21 : decode k_W_feedFour 21 = .ok (.getfield 50, 3) := by decide +kernel
theorem d_W_feedFour_24 : decode k_W_feedFour 24 = .ok (.iload_n 1, 1) := by decide +kernel
theorem d_W_feedFour_25 : decode k_W_feedFour 25 = .ok (.iload_n 2, 1) := by decide +kernel
theorem d_W_feedFour_26 : decode k_W_feedFour 26 = .ok (.iushr, 1) := by decide +kernel
theorem d_W_feedFour_27 : decode k_W_feedFour 27 = .ok (.i2b, 1) := by decide +kernel
theorem d_W_feedFour_28 : decode k_W_feedFour 28 = .ok (.bastore, 1) := by decide +kernel
theorem d_W_feedFour_29 : decode k_W_feedFour 29 = .ok (.aload_n 0, 1) := by decide +kernel
theorem d_W_feedFour_30 : decode k_W_feedFour 30 = .ok (.dup, 1) := by decide +kernel
theorem d_W_feedFour_31 : decode k_W_feedFour 31 = .ok (.getfield 50, 3) := by decide +kernel
theorem d_W_feedFour_34 : decode k_W_feedFour 34 = .ok (.iconst 1, 1) := by decide +kernel
theorem d_W_feedFour_35 : decode k_W_feedFour 35 = .ok (.iadd, 1) := by decide +kernel
theorem d_W_feedFour_36 : decode k_W_feedFour 36 = .ok (.putfield 50, 3) := by decide +kernel
theorem d_W_feedFour_39 : decode k_W_feedFour 39 = .ok (.iinc 2 (-8), 3) := by decide +kernel
theorem d_W_feedFour_42 : decode k_W_feedFour 42 = .ok (.goto (-39), 3) := by decide +kernel
theorem d_W_feedFour_45 : decode k_W_feedFour 45 = .ok (.return_, 1) := by decide +kernel
theorem d_W_wordOf_0 : decode k_W_wordOf 0 = .ok (.iload_n 0, 1) := by decide +kernel
theorem d_W_wordOf_1 : decode k_W_wordOf 1 = .ok (.tableswitch 57 1 6 #[39, 42, 45, 48, 51, 54], 39) := by decide +kernel
theorem d_W_wordOf_40 : decode k_W_wordOf 40 = .ok (.ldc 158, 2) := by decide +kernel
theorem d_W_wordOf_42 : decode k_W_wordOf 42 = .ok (.areturn, 1) := by decide +kernel
theorem d_W_wordOf_43 : decode k_W_wordOf 43 = .ok (.ldc 160, 2) := by decide +kernel
theorem d_W_wordOf_45 : decode k_W_wordOf 45 = .ok (.areturn, 1) := by decide +kernel
theorem d_W_wordOf_46 : decode k_W_wordOf 46 = .ok (.ldc 162, 2) := by decide +kernel
theorem d_W_wordOf_48 : decode k_W_wordOf 48 = .ok (.areturn, 1) := by decide +kernel
theorem d_W_wordOf_49 : decode k_W_wordOf 49 = .ok (.ldc 164, 2) := by decide +kernel
theorem d_W_wordOf_51 : decode k_W_wordOf 51 = .ok (.areturn, 1) := by decide +kernel
theorem d_W_wordOf_52 : decode k_W_wordOf 52 = .ok (.ldc 166, 2) := by decide +kernel
theorem d_W_wordOf_54 : decode k_W_wordOf 54 = .ok (.areturn, 1) := by decide +kernel
theorem d_W_wordOf_55 : decode k_W_wordOf 55 = .ok (.ldc 168, 2) := by decide +kernel
theorem d_W_wordOf_57 : decode k_W_wordOf 57 = .ok (.areturn, 1) := by decide +kernel
theorem d_W_wordOf_58 : decode k_W_wordOf 58 = .ok (.ldc 170, 2) := by decide +kernel
theorem d_W_wordOf_60 : decode k_W_wordOf 60 = .ok (.areturn, 1) := by decide +kernel
theorem d_B_init_0 : decode k_B_init 0 = .ok (.aload_n 0, 1) := by decide +kernel
theorem d_B_init_1 : decode k_B_init 1 = .ok (.invokespecial 3, 3) := by decide +kernel
theorem d_B_init_4 : decode k_B_init 4 = .ok (.aload_n 0, 1) := by decide +kernel
theorem d_B_init_5 : decode k_B_init 5 = .ok (.bipush 54, 2) := by decide +kernel
theorem d_B_init_7 : decode k_B_init 7 = .ok (.newarray .int, 2) := by decide +kernel
theorem d_B_init_9 : decode k_B_init 9 = .ok (.putfield 9, 3) := by decide +kernel
theorem d_B_init_12 : decode k_B_init 12 = .ok (.aload_n 0, 1) := by decide +kernel
theorem d_B_init_13 : decode k_B_init 13 = .ok (.bipush 54, 2) := by decide +kernel
theorem d_B_init_15 : decode k_B_init 15 = .ok (.newarray .int, 2) := by decide +kernel
theorem d_B_init_17 : decode k_B_init 17 = .ok (.putfield 15, 3) := by decide +kernel
theorem d_B_init_20 : decode k_B_init 20 = .ok (.return_, 1) := by decide +kernel
theorem d_B_start_0 : decode k_B_start 0 = .ok (.aload_n 0, 1) := by decide +kernel
theorem d_B_start_1 : decode k_B_start 1 = .ok (.iconst 0, 1) := by decide +kernel
theorem d_B_start_2 : decode k_B_start 2 = .ok (.putfield 18, 3) := by decide +kernel
theorem d_B_start_5 : decode k_B_start 5 = .ok (.aload_n 0, 1) := by decide +kernel
theorem d_B_start_6 : decode k_B_start 6 = .ok (.getfield 9, 3) := by decide +kernel
theorem d_B_start_9 : decode k_B_start 9 = .ok (.iconst 0, 1) := by decide +kernel
theorem d_B_start_10 : decode k_B_start 10 = .ok (.iconst 0, 1) := by decide +kernel
theorem d_B_start_11 : decode k_B_start 11 = .ok (.iastore, 1) := by decide +kernel
theorem d_B_start_12 : decode k_B_start 12 = .ok (.aload_n 0, 1) := by decide +kernel
theorem d_B_start_13 : decode k_B_start 13 = .ok (.getfield 15, 3) := by decide +kernel
theorem d_B_start_16 : decode k_B_start 16 = .ok (.iconst 0, 1) := by decide +kernel
theorem d_B_start_17 : decode k_B_start 17 = .ok (.iload_n 1, 1) := by decide +kernel
theorem d_B_start_18 : decode k_B_start 18 = .ok (.iastore, 1) := by decide +kernel
theorem d_B_start_19 : decode k_B_start 19 = .ok (.return_, 1) := by decide +kernel
theorem d_B_open_0 : decode k_B_open 0 = .ok (.aload_n 0, 1) := by decide +kernel
theorem d_B_open_1 : decode k_B_open 1 = .ok (.getfield 18, 3) := by decide +kernel
theorem d_B_open_4 : decode k_B_open 4 = .ok (.bipush 53, 2) := by decide +kernel
theorem d_B_open_6 : decode k_B_open 6 = .ok (.if_icmp .ge 33, 3) := by decide +kernel
theorem d_B_open_9 : decode k_B_open 9 = .ok (.aload_n 0, 1) := by decide +kernel
theorem d_B_open_10 : decode k_B_open 10 = .ok (.dup, 1) := by decide +kernel
theorem d_B_open_11 : decode k_B_open 11 = .ok (.getfield 18, 3) := by decide +kernel
theorem d_B_open_14 : decode k_B_open 14 = .ok (.iconst 1, 1) := by decide +kernel
theorem d_B_open_15 : decode k_B_open 15 = .ok (.iadd, 1) := by decide +kernel
theorem d_B_open_16 : decode k_B_open 16 = .ok (.putfield 18, 3) := by decide +kernel
theorem d_B_open_19 : decode k_B_open 19 = .ok (.aload_n 0, 1) := by decide +kernel
theorem d_B_open_20 : decode k_B_open 20 = .ok (.getfield 9, 3) := by decide +kernel
theorem d_B_open_23 : decode k_B_open 23 = .ok (.aload_n 0, 1) := by decide +kernel
theorem d_B_open_24 : decode k_B_open 24 = .ok (.getfield 18, 3) := by decide +kernel
theorem d_B_open_27 : decode k_B_open 27 = .ok (.iload_n 1, 1) := by decide +kernel
theorem d_B_open_28 : decode k_B_open 28 = .ok (.iastore, 1) := by decide +kernel
theorem d_B_open_29 : decode k_B_open 29 = .ok (.aload_n 0, 1) := by decide +kernel
theorem d_B_open_30 : decode k_B_open 30 = .ok (.getfield 15, 3) := by decide +kernel
theorem d_B_open_33 : decode k_B_open 33 = .ok (.aload_n 0, 1) := by decide +kernel
theorem d_B_open_34 : decode k_B_open 34 = .ok (.getfield 18, 3) := by decide +kernel
theorem d_B_open_37 : decode k_B_open 37 = .ok (.iload_n 2, 1) := by decide +kernel
theorem d_B_open_38 : decode k_B_open 38 = .ok (.iastore, 1) := by decide +kernel
theorem d_B_open_39 : decode k_B_open 39 = .ok (.return_, 1) := by decide +kernel
theorem d_B_close_0 : decode k_B_close 0 = .ok (.aload_n 0, 1) := by decide +kernel
theorem d_B_close_1 : decode k_B_close 1 = .ok (.getfield 18, 3) := by decide +kernel
theorem d_B_close_4 : decode k_B_close 4 = .ok (.ifCond .le 13, 3) := by decide +kernel
theorem d_B_close_7 : decode k_B_close 7 = .ok (.aload_n 0, 1) := by decide +kernel
theorem d_B_close_8 : decode k_B_close 8 = .ok (.dup, 1) := by decide +kernel
theorem d_B_close_9 : decode k_B_close 9 = .ok (.getfield 18, 3) := by decide +kernel
theorem d_B_close_12 : decode k_B_close 12 = .ok (.iconst 1, 1) := by decide +kernel
theorem d_B_close_13 : decode k_B_close 13 = .ok (.isub, 1) := by decide +kernel
theorem d_B_close_14 : decode k_B_close 14 = .ok (.putfield 18, 3) := by decide +kernel
theorem d_B_close_17 : decode k_B_close 17 = .ok (.return_, 1) := by decide +kernel
theorem d_B_kind_0 : decode k_B_kind 0 = .ok (.aload_n 0, 1) := by decide +kernel
theorem d_B_kind_1 : decode k_B_kind 1 = .ok (.getfield 9, 3) := by decide +kernel
theorem d_B_kind_4 : decode k_B_kind 4 = .ok (.aload_n 0, 1) := by decide +kernel
theorem d_B_kind_5 : decode k_B_kind 5 = .ok (.getfield 18, 3) := by decide +kernel
theorem d_B_kind_8 : decode k_B_kind 8 = .ok (.iaload, 1) := by decide +kernel
theorem d_B_kind_9 : decode k_B_kind 9 = .ok (.ireturn, 1) := by decide +kernel
theorem d_B_number_0 : decode k_B_number 0 = .ok (.aload_n 0, 1) := by decide +kernel
theorem d_B_number_1 : decode k_B_number 1 = .ok (.getfield 15, 3) := by decide +kernel
theorem d_B_number_4 : decode k_B_number 4 = .ok (.aload_n 0, 1) := by decide +kernel
theorem d_B_number_5 : decode k_B_number 5 = .ok (.getfield 18, 3) := by decide +kernel
theorem d_B_number_8 : decode k_B_number 8 = .ok (.iaload, 1) := by decide +kernel
theorem d_B_number_9 : decode k_B_number 9 = .ok (.ireturn, 1) := by decide +kernel
theorem d_B_lessOne_0 : decode k_B_lessOne 0 = .ok (.aload_n 0, 1) := by decide +kernel
theorem d_B_lessOne_1 : decode k_B_lessOne 1 = .ok (.getfield 15, 3) := by decide +kernel
theorem d_B_lessOne_4 : decode k_B_lessOne 4 = .ok (.aload_n 0, 1) := by decide +kernel
theorem d_B_lessOne_5 : decode k_B_lessOne 5 = .ok (.getfield 18, 3) := by decide +kernel
theorem d_B_lessOne_8 : decode k_B_lessOne 8 = .ok (.dup2, 1) := by decide +kernel
theorem d_B_lessOne_9 : decode k_B_lessOne 9 = .ok (.iaload, 1) := by decide +kernel
theorem d_B_lessOne_10 : decode k_B_lessOne 10 = .ok (.iconst 1, 1) := by decide +kernel
theorem d_B_lessOne_11 : decode k_B_lessOne 11 = .ok (.isub, 1) := by decide +kernel
theorem d_B_lessOne_12 : decode k_B_lessOne 12 = .ok (.iastore, 1) := by decide +kernel
theorem d_B_lessOne_13 : decode k_B_lessOne 13 = .ok (.return_, 1) := by decide +kernel
theorem d_S_init_0 : decode k_S_init 0 = .ok (.aload_n 0, 1) := by decide +kernel
theorem d_S_init_1 : decode k_S_init 1 = .ok (.invokespecial 1, 3) := by decide +kernel
theorem d_S_init_4 : decode k_S_init 4 = .ok (.aload_n 0, 1) := by decide +kernel
theorem d_S_init_5 : decode k_S_init 5 = .ok (.iload_n 1, 1) := by decide +kernel
theorem d_S_init_6 : decode k_S_init 6 = .ok (.newarray .int, 2) := by decide +kernel
theorem d_S_init_8 : decode k_S_init 8 = .ok (.putfield 7, 3) := by decide +kernel
theorem d_S_init_11 : decode k_S_init 11 = .ok (.aload_n 0, 1) := by decide +kernel
theorem d_S_init_12 : decode k_S_init 12 = .ok (.iconst 2, 1) := by decide +kernel
theorem d_S_init_13 : decode k_S_init 13 = .ok (.iload_n 2, 1) := by decide +kernel
theorem d_S_init_14 : decode k_S_init 14 = .ok (.imul, 1) := by decide +kernel
theorem d_S_init_15 : decode k_S_init 15 = .ok (.newarray .int, 2) := by decide +kernel
theorem d_S_init_17 : decode k_S_init 17 = .ok (.putfield 13, 3) := by decide +kernel
theorem d_S_init_20 : decode k_S_init 20 = .ok (.return_, 1) := by decide +kernel
theorem d_S_clear_0 : decode k_S_clear 0 = .ok (.aload_n 0, 1) := by decide +kernel
theorem d_S_clear_1 : decode k_S_clear 1 = .ok (.iconst 0, 1) := by decide +kernel
theorem d_S_clear_2 : decode k_S_clear 2 = .ok (.putfield 16, 3) := by decide +kernel
theorem d_S_clear_5 : decode k_S_clear 5 = .ok (.aload_n 0, 1) := by decide +kernel
theorem d_S_clear_6 : decode k_S_clear 6 = .ok (.iconst 0, 1) := by decide +kernel
theorem d_S_clear_7 : decode k_S_clear 7 = .ok (.putfield 20, 3) := by decide +kernel
theorem d_S_clear_10 : decode k_S_clear 10 = .ok (.return_, 1) := by decide +kernel
theorem d_S_isNone_0 : decode k_S_isNone 0 = .ok (.aload_n 0, 1) := by decide +kernel
theorem d_S_isNone_1 : decode k_S_isNone 1 = .ok (.getfield 16, 3) := by decide +kernel
theorem d_S_isNone_4 : decode k_S_isNone 4 = .ok (.ifCond .ne 7, 3) := by decide +kernel
theorem d_S_isNone_7 : decode k_S_isNone 7 = .ok (.iconst 1, 1) := by decide +kernel
theorem d_S_isNone_8 : decode k_S_isNone 8 = .ok (.goto 4, 3) := by decide +kernel
theorem d_S_isNone_11 : decode k_S_isNone 11 = .ok (.iconst 0, 1) := by decide +kernel
theorem d_S_isNone_12 : decode k_S_isNone 12 = .ok (.ireturn, 1) := by decide +kernel
theorem d_S_hasRoomFor_0 : decode k_S_hasRoomFor 0 = .ok (.aload_n 0, 1) := by decide +kernel
theorem d_S_hasRoomFor_1 : decode k_S_hasRoomFor 1 = .ok (.getfield 16, 3) := by decide +kernel
theorem d_S_hasRoomFor_4 : decode k_S_hasRoomFor 4 = .ok (.aload_n 0, 1) := by decide +kernel
theorem d_S_hasRoomFor_5 : decode k_S_hasRoomFor 5 = .ok (.getfield 7, 3) := by decide +kernel
theorem d_S_hasRoomFor_8 : decode k_S_hasRoomFor 8 = .ok (.arraylength, 1) := by decide +kernel
theorem d_S_hasRoomFor_9 : decode k_S_hasRoomFor 9 = .ok (.iload_n 1, 1) := by decide +kernel
theorem d_S_hasRoomFor_10 : decode k_S_hasRoomFor 10 = .ok (.isub, 1) := by decide +kernel
theorem d_S_hasRoomFor_11 : decode k_S_hasRoomFor 11 = .ok (.if_icmp .gt 7, 3) := by decide +kernel
theorem d_S_hasRoomFor_14 : decode k_S_hasRoomFor 14 = .ok (.iconst 1, 1) := by decide +kernel
theorem d_S_hasRoomFor_15 : decode k_S_hasRoomFor 15 = .ok (.goto 4, 3) := by decide +kernel
theorem d_S_hasRoomFor_18 : decode k_S_hasRoomFor 18 = .ok (.iconst 0, 1) := by decide +kernel
theorem d_S_hasRoomFor_19 : decode k_S_hasRoomFor 19 = .ok (.ireturn, 1) := by decide +kernel
theorem d_S_hasRoomForPoint_0 : decode k_S_hasRoomForPoint 0 = .ok (.iconst 2, 1) := by decide +kernel
theorem d_S_hasRoomForPoint_1 : decode k_S_hasRoomForPoint 1 = .ok (.aload_n 0, 1) := by decide +kernel
theorem d_S_hasRoomForPoint_2 : decode k_S_hasRoomForPoint 2 = .ok (.getfield 20, 3) := by decide +kernel
theorem d_S_hasRoomForPoint_5 : decode k_S_hasRoomForPoint 5 = .ok (.imul, 1) := by decide +kernel
theorem d_S_hasRoomForPoint_6 : decode k_S_hasRoomForPoint 6 = .ok (.iconst 1, 1) := by decide +kernel
theorem d_S_hasRoomForPoint_7 : decode k_S_hasRoomForPoint 7 = .ok (.iadd, 1) := by decide +kernel
theorem d_S_hasRoomForPoint_8 : decode k_S_hasRoomForPoint 8 = .ok (.aload_n 0, 1) := by decide +kernel
theorem d_S_hasRoomForPoint_9 : decode k_S_hasRoomForPoint 9 = .ok (.getfield 13, 3) := by decide +kernel
theorem d_S_hasRoomForPoint_12 : decode k_S_hasRoomForPoint 12 = .ok (.arraylength, 1) := by decide +kernel
theorem d_S_hasRoomForPoint_13 : decode k_S_hasRoomForPoint 13 = .ok (.if_icmp .ge 7, 3) := by decide +kernel
theorem d_S_hasRoomForPoint_16 : decode k_S_hasRoomForPoint 16 = .ok (.iconst 1, 1) := by decide +kernel
theorem d_S_hasRoomForPoint_17 : decode k_S_hasRoomForPoint 17 = .ok (.goto 4, 3) := by decide +kernel
theorem d_S_hasRoomForPoint_20 : decode k_S_hasRoomForPoint 20 = .ok (.iconst 0, 1) := by decide +kernel
theorem d_S_hasRoomForPoint_21 : decode k_S_hasRoomForPoint 21 = .ok (.ireturn, 1) := by decide +kernel
theorem d_S_addNumber_0 : decode k_S_addNumber 0 = .ok (.aload_n 0, 1) := by decide +kernel
theorem d_S_addNumber_1 : decode k_S_addNumber 1 = .ok (.getfield 16, 3) := by decide +kernel
theorem d_S_addNumber_4 : decode k_S_addNumber 4 = .ok (.aload_n 0, 1) := by decide +kernel
theorem d_S_addNumber_5 : decode k_S_addNumber 5 = .ok (.getfield 7, 3) := by decide +kernel
theorem d_S_addNumber_8 : decode k_S_addNumber 8 = .ok (.arraylength, 1) := by decide +kernel
theorem d_S_addNumber_9 : decode k_S_addNumber 9 = .ok (.if_icmp .ge 23, 3) := by decide +kernel
theorem d_S_addNumber_12 : decode k_S_addNumber 12 = .ok (.aload_n 0, 1) := by decide +kernel
theorem d_S_addNumber_13 : decode k_S_addNumber 13 = .ok (.getfield 7, 3) := by decide +kernel
theorem d_S_addNumber_16 : decode k_S_addNumber 16 = .ok (.aload_n 0, 1) := by decide +kernel
theorem d_S_addNumber_17 : decode k_S_addNumber 17 = .ok (.getfield 16, 3) := by decide +kernel
theorem d_S_addNumber_20 : decode k_S_addNumber 20 = .ok (.iload_n 1, 1) := by decide +kernel
theorem d_S_addNumber_21 : decode k_S_addNumber 21 = .ok (.iastore, 1) := by decide +kernel
theorem d_S_addNumber_22 : decode k_S_addNumber 22 = .ok (.aload_n 0, 1) := by decide +kernel
theorem d_S_addNumber_23 : decode k_S_addNumber 23 = .ok (.dup, 1) := by decide +kernel
theorem d_S_addNumber_24 : decode k_S_addNumber 24 = .ok (.getfield 16, 3) := by decide +kernel
theorem d_S_addNumber_27 : decode k_S_addNumber 27 = .ok (.iconst 1, 1) := by decide +kernel
theorem d_S_addNumber_28 : decode k_S_addNumber 28 = .ok (.iadd, 1) := by decide +kernel
theorem d_S_addNumber_29 : decode k_S_addNumber 29 = .ok (.putfield 16, 3) := by decide +kernel
theorem d_S_addNumber_32 : decode k_S_addNumber 32 = .ok (.return_, 1) := by decide +kernel
theorem d_S_addPoint_0 : decode k_S_addPoint 0 = .ok (.aload_n 0, 1) := by decide +kernel
theorem d_S_addPoint_1 : decode k_S_addPoint 1 = .ok (.invokevirtual 23, 3) := by decide +kernel
theorem d_S_addPoint_4 : decode k_S_addPoint 4 = .ok (.ifCond .eq 39, 3) := by decide +kernel
theorem d_S_addPoint_7 : decode k_S_addPoint 7 = .ok (.aload_n 0, 1) := by decide +kernel
theorem d_S_addPoint_8 : decode k_S_addPoint 8 = .ok (.getfield 13, 3) := by decide +kernel
theorem d_S_addPoint_11 : decode k_S_addPoint 11 = .ok (.iconst 2, 1) := by decide +kernel
theorem d_S_addPoint_12 : decode k_S_addPoint 12 = .ok (.aload_n 0, 1) := by decide +kernel
theorem d_S_addPoint_13 : decode k_S_addPoint 13 = .ok (.getfield 20, 3) := by decide +kernel
theorem d_S_addPoint_16 : decode k_S_addPoint 16 = .ok (.imul, 1) := by decide +kernel
theorem d_S_addPoint_17 : decode k_S_addPoint 17 = .ok (.iload_n 1, 1) := by decide +kernel
theorem d_S_addPoint_18 : decode k_S_addPoint 18 = .ok (.iastore, 1) := by decide +kernel
theorem d_S_addPoint_19 : decode k_S_addPoint 19 = .ok (.aload_n 0, 1) := by decide +kernel
theorem d_S_addPoint_20 : decode k_S_addPoint 20 = .ok (.getfield 13, 3) := by decide +kernel
theorem d_S_addPoint_23 : decode k_S_addPoint 23 = .ok (.iconst 2, 1) := by decide +kernel
theorem d_S_addPoint_24 : decode k_S_addPoint 24 = .ok (.aload_n 0, 1) := by decide +kernel
theorem d_S_addPoint_25 : decode k_S_addPoint 25 = .ok (.getfield 20, 3) := by decide +kernel
theorem d_S_addPoint_28 : decode k_S_addPoint 28 = .ok (.imul, 1) := by decide +kernel
theorem d_S_addPoint_29 : decode k_S_addPoint 29 = .ok (.iconst 1, 1) := by decide +kernel
theorem d_S_addPoint_30 : decode k_S_addPoint 30 = .ok (.iadd, 1) := by decide +kernel
theorem d_S_addPoint_31 : decode k_S_addPoint 31 = .ok (.iload_n 2, 1) := by decide +kernel
theorem d_S_addPoint_32 : decode k_S_addPoint 32 = .ok (.iastore, 1) := by decide +kernel
theorem d_S_addPoint_33 : decode k_S_addPoint 33 = .ok (.aload_n 0, 1) := by decide +kernel
theorem d_S_addPoint_34 : decode k_S_addPoint 34 = .ok (.dup, 1) := by decide +kernel
theorem d_S_addPoint_35 : decode k_S_addPoint 35 = .ok (.getfield 20, 3) := by decide +kernel
theorem d_S_addPoint_38 : decode k_S_addPoint 38 = .ok (.iconst 1, 1) := by decide +kernel
theorem d_S_addPoint_39 : decode k_S_addPoint 39 = .ok (.iadd, 1) := by decide +kernel
theorem d_S_addPoint_40 : decode k_S_addPoint 40 = .ok (.putfield 20, 3) := by decide +kernel
theorem d_S_addPoint_43 : decode k_S_addPoint 43 = .ok (.return_, 1) := by decide +kernel
theorem d_S_addOneAt_0 : decode k_S_addOneAt 0 = .ok (.iload_n 1, 1) := by decide +kernel
theorem d_S_addOneAt_1 : decode k_S_addOneAt 1 = .ok (.ifCond .lt 21, 3) := by decide +kernel
theorem d_S_addOneAt_4 : decode k_S_addOneAt 4 = .ok (.iload_n 1, 1) := by decide +kernel
theorem d_S_addOneAt_5 : decode k_S_addOneAt 5 = .ok (.aload_n 0, 1) := by decide +kernel
theorem d_S_addOneAt_6 : decode k_S_addOneAt 6 = .ok (.getfield 16, 3) := by decide +kernel
theorem d_S_addOneAt_9 : decode k_S_addOneAt 9 = .ok (.if_icmp .ge 13, 3) := by decide +kernel
theorem d_S_addOneAt_12 : decode k_S_addOneAt 12 = .ok (.aload_n 0, 1) := by decide +kernel
theorem d_S_addOneAt_13 : decode k_S_addOneAt 13 = .ok (.getfield 7, 3) := by decide +kernel
theorem d_S_addOneAt_16 : decode k_S_addOneAt 16 = .ok (.iload_n 1, 1) := by decide +kernel
theorem d_S_addOneAt_17 : decode k_S_addOneAt 17 = .ok (.dup2, 1) := by decide +kernel
theorem d_S_addOneAt_18 : decode k_S_addOneAt 18 = .ok (.iaload, 1) := by decide +kernel
theorem d_S_addOneAt_19 : decode k_S_addOneAt 19 = .ok (.iconst 1, 1) := by decide +kernel
theorem d_S_addOneAt_20 : decode k_S_addOneAt 20 = .ok (.iadd, 1) := by decide +kernel
theorem d_S_addOneAt_21 : decode k_S_addOneAt 21 = .ok (.iastore, 1) := by decide +kernel
theorem d_S_addOneAt_22 : decode k_S_addOneAt 22 = .ok (.return_, 1) := by decide +kernel
theorem d_S_numberAt_0 : decode k_S_numberAt 0 = .ok (.iload_n 1, 1) := by decide +kernel
theorem d_S_numberAt_1 : decode k_S_numberAt 1 = .ok (.ifCond .lt 20, 3) := by decide +kernel
theorem d_S_numberAt_4 : decode k_S_numberAt 4 = .ok (.iload_n 1, 1) := by decide +kernel
theorem d_S_numberAt_5 : decode k_S_numberAt 5 = .ok (.aload_n 0, 1) := by decide +kernel
theorem d_S_numberAt_6 : decode k_S_numberAt 6 = .ok (.getfield 16, 3) := by decide +kernel
theorem d_S_numberAt_9 : decode k_S_numberAt 9 = .ok (.if_icmp .ge 12, 3) := by decide +kernel
theorem d_S_numberAt_12 : decode k_S_numberAt 12 = .ok (.aload_n 0, 1) := by decide +kernel
theorem d_S_numberAt_13 : decode k_S_numberAt 13 = .ok (.getfield 7, 3) := by decide +kernel
theorem d_S_numberAt_16 : decode k_S_numberAt 16 = .ok (.iload_n 1, 1) := by decide +kernel
theorem d_S_numberAt_17 : decode k_S_numberAt 17 = .ok (.iaload, 1) := by decide +kernel
theorem d_S_numberAt_18 : decode k_S_numberAt 18 = .ok (.goto 4, 3) := by decide +kernel
theorem d_S_numberAt_21 : decode k_S_numberAt 21 = .ok (.iconst 0, 1) := by decide +kernel
theorem d_S_numberAt_22 : decode k_S_numberAt 22 = .ok (.ireturn, 1) := by decide +kernel
theorem d_S_ordinateAt_0 : decode k_S_ordinateAt 0 = .ok (.iload_n 1, 1) := by decide +kernel
theorem d_S_ordinateAt_1 : decode k_S_ordinateAt 1 = .ok (.ifCond .lt 26, 3) := by decide +kernel
theorem d_S_ordinateAt_4 : decode k_S_ordinateAt 4 = .ok (.iload_n 1, 1) := by decide +kernel
theorem d_S_ordinateAt_5 : decode k_S_ordinateAt 5 = .ok (.aload_n 0, 1) := by decide +kernel
theorem d_S_ordinateAt_6 : decode k_S_ordinateAt 6 = .ok (.getfield 20, 3) := by decide +kernel
theorem d_S_ordinateAt_9 : decode k_S_ordinateAt 9 = .ok (.if_icmp .ge 18, 3) := by decide +kernel
theorem d_S_ordinateAt_12 : decode k_S_ordinateAt 12 = .ok (.aload_n 0, 1) := by decide +kernel
theorem d_S_ordinateAt_13 : decode k_S_ordinateAt 13 = .ok (.getfield 13, 3) := by decide +kernel
theorem d_S_ordinateAt_16 : decode k_S_ordinateAt 16 = .ok (.iconst 2, 1) := by decide +kernel
theorem d_S_ordinateAt_17 : decode k_S_ordinateAt 17 = .ok (.iload_n 1, 1) := by decide +kernel
theorem d_S_ordinateAt_18 : decode k_S_ordinateAt 18 = .ok (.imul, 1) := by decide +kernel
theorem d_S_ordinateAt_19 : decode k_S_ordinateAt 19 = .ok (.iload_n 2, 1) := by decide +kernel
theorem d_S_ordinateAt_20 : decode k_S_ordinateAt 20 = .ok (.iconst 1, 1) := by decide +kernel
theorem d_S_ordinateAt_21 : decode k_S_ordinateAt 21 = .ok (.iand, 1) := by decide +kernel
theorem d_S_ordinateAt_22 : decode k_S_ordinateAt 22 = .ok (.iadd, 1) := by decide +kernel
theorem d_S_ordinateAt_23 : decode k_S_ordinateAt 23 = .ok (.iaload, 1) := by decide +kernel
theorem d_S_ordinateAt_24 : decode k_S_ordinateAt 24 = .ok (.goto 4, 3) := by decide +kernel
theorem d_S_ordinateAt_27 : decode k_S_ordinateAt 27 = .ok (.iconst 0, 1) := by decide +kernel
theorem d_S_ordinateAt_28 : decode k_S_ordinateAt 28 = .ok (.ireturn, 1) := by decide +kernel
theorem d_S_takeFrom_0 : decode k_S_takeFrom 0 = .ok (.aload_n 0, 1) := by decide +kernel
theorem d_S_takeFrom_1 : decode k_S_takeFrom 1 = .ok (.invokevirtual 27, 3) := by decide +kernel
theorem d_S_takeFrom_4 : decode k_S_takeFrom 4 = .ok (.iconst 0, 1) := by decide +kernel
theorem d_S_takeFrom_5 : decode k_S_takeFrom 5 = .ok (.istore_n 2, 1) := by decide +kernel
theorem d_S_takeFrom_6 : decode k_S_takeFrom 6 = .ok (.iload_n 2, 1) := by decide +kernel
theorem d_S_takeFrom_7 : decode k_S_takeFrom 7 = .ok (.aload_n 1, 1) := by decide +kernel
theorem d_S_takeFrom_8 : decode k_S_takeFrom 8 = .ok (.getfield 16, 3) := by decide +kernel
theorem d_S_takeFrom_11 : decode k_S_takeFrom 11 = .ok (.if_icmp .ge 19, 3) := by decide +kernel
theorem d_S_takeFrom_14 : decode k_S_takeFrom 14 = .ok (.aload_n 0, 1) := by decide +kernel
theorem d_S_takeFrom_15 : decode k_S_takeFrom 15 = .ok (.aload_n 1, 1) := by decide +kernel
theorem d_S_takeFrom_16 : decode k_S_takeFrom 16 = .ok (.getfield 7, 3) := by decide +kernel
theorem d_S_takeFrom_19 : decode k_S_takeFrom 19 = .ok (.iload_n 2, 1) := by decide +kernel
theorem d_S_takeFrom_20 : decode k_S_takeFrom 20 = .ok (.iaload, 1) := by decide +kernel
theorem d_S_takeFrom_21 : decode k_S_takeFrom 21 = .ok (.invokevirtual 30, 3) := by decide +kernel
theorem d_S_takeFrom_24 : decode k_S_takeFrom 24 = .ok (.iinc 2 1, 3) := by decide +kernel
theorem d_S_takeFrom_27 : decode k_S_takeFrom 27 = .ok (.goto (-21), 3) := by decide +kernel
theorem d_S_takeFrom_30 : decode k_S_takeFrom 30 = .ok (.iconst 0, 1) := by decide +kernel
theorem d_S_takeFrom_31 : decode k_S_takeFrom 31 = .ok (.istore_n 2, 1) := by decide +kernel
theorem d_S_takeFrom_32 : decode k_S_takeFrom 32 = .ok (.iload_n 2, 1) := by decide +kernel
theorem d_S_takeFrom_33 : decode k_S_takeFrom 33 = .ok (.aload_n 1, 1) := by decide +kernel
theorem d_S_takeFrom_34 : decode k_S_takeFrom 34 = .ok (.getfield 20, 3) := by decide +kernel
theorem d_S_takeFrom_37 : decode k_S_takeFrom 37 = .ok (.if_icmp .ge 31, 3) := by decide +kernel
theorem d_S_takeFrom_40 : decode k_S_takeFrom 40 = .ok (.aload_n 0, 1) := by decide +kernel
theorem d_S_takeFrom_41 : decode k_S_takeFrom 41 = .ok (.aload_n 1, 1) := by decide +kernel
theorem d_S_takeFrom_42 : decode k_S_takeFrom 42 = .ok (.getfield 13, 3) := by decide +kernel
theorem d_S_takeFrom_45 : decode k_S_takeFrom 45 = .ok (.iconst 2, 1) := by decide +kernel
theorem d_S_takeFrom_46 : decode k_S_takeFrom 46 = .ok (.iload_n 2, 1) := by decide +kernel
theorem d_S_takeFrom_47 : decode k_S_takeFrom 47 = .ok (.imul, 1) := by decide +kernel
theorem d_S_takeFrom_48 : decode k_S_takeFrom 48 = .ok (.iaload, 1) := by decide +kernel
theorem d_S_takeFrom_49 : decode k_S_takeFrom 49 = .ok (.aload_n 1, 1) := by decide +kernel
theorem d_S_takeFrom_50 : decode k_S_takeFrom 50 = .ok (.getfield 13, 3) := by decide +kernel
theorem d_S_takeFrom_53 : decode k_S_takeFrom 53 = .ok (.iconst 2, 1) := by decide +kernel
theorem d_S_takeFrom_54 : decode k_S_takeFrom 54 = .ok (.iload_n 2, 1) := by decide +kernel
theorem d_S_takeFrom_55 : decode k_S_takeFrom 55 = .ok (.imul, 1) := by decide +kernel
theorem d_S_takeFrom_56 : decode k_S_takeFrom 56 = .ok (.iconst 1, 1) := by decide +kernel
theorem d_S_takeFrom_57 : decode k_S_takeFrom 57 = .ok (.iadd, 1) := by decide +kernel
theorem d_S_takeFrom_58 : decode k_S_takeFrom 58 = .ok (.iaload, 1) := by decide +kernel
theorem d_S_takeFrom_59 : decode k_S_takeFrom 59 = .ok (.invokevirtual 34, 3) := by decide +kernel
theorem d_S_takeFrom_62 : decode k_S_takeFrom 62 = .ok (.iinc 2 1, 3) := by decide +kernel
theorem d_S_takeFrom_65 : decode k_S_takeFrom 65 = .ok (.goto (-33), 3) := by decide +kernel
theorem d_S_takeFrom_68 : decode k_S_takeFrom 68 = .ok (.return_, 1) := by decide +kernel
theorem d_S_isLike_0 : decode k_S_isLike 0 = .ok (.aload_n 0, 1) := by decide +kernel
theorem d_S_isLike_1 : decode k_S_isLike 1 = .ok (.getfield 16, 3) := by decide +kernel
theorem d_S_isLike_4 : decode k_S_isLike 4 = .ok (.aload_n 1, 1) := by decide +kernel
theorem d_S_isLike_5 : decode k_S_isLike 5 = .ok (.getfield 16, 3) := by decide +kernel
theorem d_S_isLike_8 : decode k_S_isLike 8 = .ok (.if_icmp .ne 14, 3) := by decide +kernel
theorem d_S_isLike_11 : decode k_S_isLike 11 = .ok (.aload_n 0, 1) := by decide +kernel
theorem d_S_isLike_12 : decode k_S_isLike 12 = .ok (.getfield 20, 3) := by decide +kernel
theorem d_S_isLike_15 : decode k_S_isLike 15 = .ok (.aload_n 1, 1) := by decide +kernel
theorem d_S_isLike_16 : decode k_S_isLike 16 = .ok (.getfield 20, 3) := by decide +kernel
theorem d_S_isLike_19 : decode k_S_isLike 19 = .ok (.if_icmp .eq 5, 3) := by decide +kernel
theorem d_S_isLike_22 : decode k_S_isLike 22 = .ok (.iconst 0, 1) := by decide +kernel
theorem d_S_isLike_23 : decode k_S_isLike 23 = .ok (.ireturn, 1) := by decide +kernel
theorem d_S_isLike_24 : decode k_S_isLike 24 = .ok (.iconst 0, 1) := by decide +kernel
theorem d_S_isLike_25 : decode k_S_isLike 25 = .ok (.istore_n 2, 1) := by decide +kernel
theorem d_S_isLike_26 : decode k_S_isLike 26 = .ok (.iload_n 2, 1) := by decide +kernel
theorem d_S_isLike_27 : decode k_S_isLike 27 = .ok (.aload_n 0, 1) := by decide +kernel
theorem d_S_isLike_28 : decode k_S_isLike 28 = .ok (.getfield 16, 3) := by decide +kernel
theorem d_S_isLike_31 : decode k_S_isLike 31 = .ok (.if_icmp .ge 26, 3) := by decide +kernel
theorem d_S_isLike_34 : decode k_S_isLike 34 = .ok (.aload_n 0, 1) := by decide +kernel
theorem d_S_isLike_35 : decode k_S_isLike 35 = .ok (.getfield 7, 3) := by decide +kernel
theorem d_S_isLike_38 : decode k_S_isLike 38 = .ok (.iload_n 2, 1) := by decide +kernel
theorem d_S_isLike_39 : decode k_S_isLike 39 = .ok (.iaload, 1) := by decide +kernel
theorem d_S_isLike_40 : decode k_S_isLike 40 = .ok (.aload_n 1, 1) := by decide +kernel
theorem d_S_isLike_41 : decode k_S_isLike 41 = .ok (.getfield 7, 3) := by decide +kernel
theorem d_S_isLike_44 : decode k_S_isLike 44 = .ok (.iload_n 2, 1) := by decide +kernel
theorem d_S_isLike_45 : decode k_S_isLike 45 = .ok (.iaload, 1) := by decide +kernel
theorem d_S_isLike_46 : decode k_S_isLike 46 = .ok (.if_icmp .eq 5, 3) := by decide +kernel
theorem d_S_isLike_49 : decode k_S_isLike 49 = .ok (.iconst 0, 1) := by decide +kernel
theorem d_S_isLike_50 : decode k_S_isLike 50 = .ok (.ireturn, 1) := by decide +kernel
theorem d_S_isLike_51 : decode k_S_isLike 51 = .ok (.iinc 2 1, 3) := by decide +kernel
theorem d_S_isLike_54 : decode k_S_isLike 54 = .ok (.goto (-28), 3) := by decide +kernel
theorem d_S_isLike_57 : decode k_S_isLike 57 = .ok (.iconst 0, 1) := by decide +kernel
theorem d_S_isLike_58 : decode k_S_isLike 58 = .ok (.istore_n 2, 1) := by decide +kernel
theorem d_S_isLike_59 : decode k_S_isLike 59 = .ok (.iload_n 2, 1) := by decide +kernel
theorem d_S_isLike_60 : decode k_S_isLike 60 = .ok (.iconst 2, 1) := by decide +kernel
theorem d_S_isLike_61 : decode k_S_isLike 61 = .ok (.aload_n 0, 1) := by decide +kernel
theorem d_S_isLike_62 : decode k_S_isLike 62 = .ok (.getfield 20, 3) := by decide +kernel
theorem d_S_isLike_65 : decode k_S_isLike 65 = .ok (.imul, 1) := by decide +kernel
theorem d_S_isLike_66 : decode k_S_isLike 66 = .ok (.if_icmp .ge 26, 3) := by decide +kernel
theorem d_S_isLike_69 : decode k_S_isLike 69 = .ok (.aload_n 0, 1) := by decide +kernel
theorem d_S_isLike_70 : decode k_S_isLike 70 = .ok (.getfield 13, 3) := by decide +kernel
theorem d_S_isLike_73 : decode k_S_isLike 73 = .ok (.iload_n 2, 1) := by decide +kernel
theorem d_S_isLike_74 : decode k_S_isLike 74 = .ok (.iaload, 1) := by decide +kernel
theorem d_S_isLike_75 : decode k_S_isLike 75 = .ok (.aload_n 1, 1) := by decide +kernel
theorem d_S_isLike_76 : decode k_S_isLike 76 = .ok (.getfield 13, 3) := by decide +kernel
theorem d_S_isLike_79 : decode k_S_isLike 79 = .ok (.iload_n 2, 1) := by decide +kernel
theorem d_S_isLike_80 : decode k_S_isLike 80 = .ok (.iaload, 1) := by decide +kernel
theorem d_S_isLike_81 : decode k_S_isLike 81 = .ok (.if_icmp .eq 5, 3) := by decide +kernel
theorem d_S_isLike_84 : decode k_S_isLike 84 = .ok (.iconst 0, 1) := by decide +kernel
theorem d_S_isLike_85 : decode k_S_isLike 85 = .ok (.ireturn, 1) := by decide +kernel
theorem d_S_isLike_86 : decode k_S_isLike 86 = .ok (.iinc 2 1, 3) := by decide +kernel
theorem d_S_isLike_89 : decode k_S_isLike 89 = .ok (.goto (-30), 3) := by decide +kernel
theorem d_S_isLike_92 : decode k_S_isLike 92 = .ok (.iconst 1, 1) := by decide +kernel
theorem d_S_isLike_93 : decode k_S_isLike 93 = .ok (.ireturn, 1) := by decide +kernel
theorem d_JMath_max_0 : decode k_JMath_max 0 = .ok (.iload_n 0, 1) := by decide +kernel
theorem d_JMath_max_1 : decode k_JMath_max 1 = .ok (.iload_n 1, 1) := by decide +kernel
theorem d_JMath_max_2 : decode k_JMath_max 2 = .ok (.if_icmp .lt 7, 3) := by decide +kernel
theorem d_JMath_max_5 : decode k_JMath_max 5 = .ok (.iload_n 0, 1) := by decide +kernel
theorem d_JMath_max_6 : decode k_JMath_max 6 = .ok (.goto 4, 3) := by decide +kernel
theorem d_JMath_max_9 : decode k_JMath_max 9 = .ok (.iload_n 1, 1) := by decide +kernel
theorem d_JMath_max_10 : decode k_JMath_max 10 = .ok (.ireturn, 1) := by decide +kernel
theorem d_JMath_min_0 : decode k_JMath_min 0 = .ok (.iload_n 0, 1) := by decide +kernel
theorem d_JMath_min_1 : decode k_JMath_min 1 = .ok (.iload_n 1, 1) := by decide +kernel
theorem d_JMath_min_2 : decode k_JMath_min 2 = .ok (.if_icmp .gt 7, 3) := by decide +kernel
theorem d_JMath_min_5 : decode k_JMath_min 5 = .ok (.iload_n 0, 1) := by decide +kernel
theorem d_JMath_min_6 : decode k_JMath_min 6 = .ok (.goto 4, 3) := by decide +kernel
theorem d_JMath_min_9 : decode k_JMath_min 9 = .ok (.iload_n 1, 1) := by decide +kernel
theorem d_JMath_min_10 : decode k_JMath_min 10 = .ok (.ireturn, 1) := by decide +kernel
theorem d_JString_charAt_0 : decode k_JString_charAt 0 = .ok (.aload_n 0, 1) := by decide +kernel
theorem d_JString_charAt_1 : decode k_JString_charAt 1 = .ok (.invokevirtual 492, 3) := by decide +kernel
theorem d_JString_charAt_4 : decode k_JString_charAt 4 = .ok (.ifCond .eq 12, 3) := by decide +kernel
theorem d_JString_charAt_7 : decode k_JString_charAt 7 = .ok (.aload_n 0, 1) := by decide +kernel
theorem d_JString_charAt_8 : decode k_JString_charAt 8 = .ok (.getfield 9, 3) := by decide +kernel
theorem d_JString_charAt_11 : decode k_JString_charAt 11 = .ok (.iload_n 1, 1) := by decide +kernel
theorem d_JString_charAt_12 : decode k_JString_charAt 12 = .ok (.invokestatic 495, 3) := by decide +kernel
theorem d_JString_charAt_15 : decode k_JString_charAt 15 = .ok (.ireturn, 1) := by decide +kernel
theorem d_JString_charAt_16 : decode k_JString_charAt 16 = .ok (.aload_n 0, 1) := by decide +kernel
theorem d_JString_charAt_17 : decode k_JString_charAt 17 = .ok (.getfield 9, 3) := by decide +kernel
theorem d_JString_charAt_20 : decode k_JString_charAt 20 = .ok (.iload_n 1, 1) := by decide +kernel
theorem d_JString_charAt_21 : decode k_JString_charAt 21 = .ok (.invokestatic 498, 3) := by decide +kernel
theorem d_JString_charAt_24 : decode k_JString_charAt 24 = .ok (.ireturn, 1) := by decide +kernel
theorem d_JString_checkIndex_0 : decode k_JString_checkIndex 0 = .ok (.iload_n 0, 1) := by decide +kernel
theorem d_JString_checkIndex_1 : decode k_JString_checkIndex 1 = .ok (.iload_n 1, 1) := by decide +kernel
theorem d_JString_checkIndex_2 : decode k_JString_checkIndex 2 = .ok (.getstatic 1053, 3) := by decide +kernel
theorem d_JString_checkIndex_5 : decode k_JString_checkIndex 5 = .ok (.invokestatic 1059, 3) := by decide +kernel
theorem d_JString_checkIndex_8 : decode k_JString_checkIndex 8 = .ok (.pop, 1) := by decide +kernel
theorem d_JString_checkIndex_9 : decode k_JString_checkIndex 9 = .ok (.return_, 1) := by decide +kernel
theorem d_JString_coder_0 : decode k_JString_coder 0 = .ok (.getstatic 38, 3) := by decide +kernel
theorem d_JString_coder_3 : decode k_JString_coder 3 = .ok (.ifCond .eq 10, 3) := by decide +kernel
theorem d_JString_coder_6 : decode k_JString_coder 6 = .ok (.aload_n 0, 1) := by decide +kernel
theorem d_JString_coder_7 : decode k_JString_coder 7 = .ok (.getfield 15, 3) := by decide +kernel
theorem d_JString_coder_10 : decode k_JString_coder 10 = .ok (.goto 4, 3) := by decide +kernel
theorem d_JString_coder_13 : decode k_JString_coder 13 = .ok (.iconst 1, 1) := by decide +kernel
theorem d_JString_coder_14 : decode k_JString_coder 14 = .ok (.ireturn, 1) := by decide +kernel
theorem d_JString_isLatin1_0 : decode k_JString_isLatin1 0 = .ok (.getstatic 38, 3) := by decide +kernel
theorem d_JString_isLatin1_3 : decode k_JString_isLatin1 3 = .ok (.ifCond .eq 14, 3) := by decide +kernel
theorem d_JString_isLatin1_6 : decode k_JString_isLatin1 6 = .ok (.aload_n 0, 1) := by decide +kernel
theorem d_JString_isLatin1_7 : decode k_JString_isLatin1 7 = .ok (.getfield 15, 3) := by decide +kernel
theorem d_JString_isLatin1_10 : decode k_JString_isLatin1 10 = .ok (.ifCond .ne 7, 3) := by decide +kernel
theorem d_JString_isLatin1_13 : decode k_JString_isLatin1 13 = .ok (.iconst 1, 1) := by decide +kernel
theorem d_JString_isLatin1_14 : decode k_JString_isLatin1 14 = .ok (.goto 4, 3) := by decide +kernel
theorem d_JString_isLatin1_17 : decode k_JString_isLatin1 17 = .ok (.iconst 0, 1) := by decide +kernel
theorem d_JString_isLatin1_18 : decode k_JString_isLatin1 18 = .ok (.ireturn, 1) := by decide +kernel
theorem d_JString_length_0 : decode k_JString_length 0 = .ok (.aload_n 0, 1) := by decide +kernel
theorem d_JString_length_1 : decode k_JString_length 1 = .ok (.getfield 9, 3) := by decide +kernel
theorem d_JString_length_4 : decode k_JString_length 4 = .ok (.arraylength, 1) := by decide +kernel
theorem d_JString_length_5 : decode k_JString_length 5 = .ok (.aload_n 0, 1) := by decide +kernel
theorem d_JString_length_6 : decode k_JString_length 6 = .ok (.invokevirtual 335, 3) := by decide +kernel
theorem d_JString_length_9 : decode k_JString_length 9 = .ok (.ishr, 1) := by decide +kernel
theorem d_JString_length_10 : decode k_JString_length 10 = .ok (.ireturn, 1) := by decide +kernel
theorem d_JStringLatin1_charAt_0 : decode k_JStringLatin1_charAt 0 = .ok (.iload_n 1, 1) := by decide +kernel
theorem d_JStringLatin1_charAt_1 : decode k_JStringLatin1_charAt 1 = .ok (.aload_n 0, 1) := by decide +kernel
theorem d_JStringLatin1_charAt_2 : decode k_JStringLatin1_charAt 2 = .ok (.arraylength, 1) := by decide +kernel
theorem d_JStringLatin1_charAt_3 : decode k_JStringLatin1_charAt 3 = .ok (.invokestatic 9, 3) := by decide +kernel
theorem d_JStringLatin1_charAt_6 : decode k_JStringLatin1_charAt 6 = .ok (.aload_n 0, 1) := by decide +kernel
theorem d_JStringLatin1_charAt_7 : decode k_JStringLatin1_charAt 7 = .ok (.iload_n 1, 1) := by decide +kernel
theorem d_JStringLatin1_charAt_8 : decode k_JStringLatin1_charAt 8 = .ok (.baload, 1) := by decide +kernel
theorem d_JStringLatin1_charAt_9 : decode k_JStringLatin1_charAt 9 = .ok (.sipush 255, 3) := by decide +kernel
theorem d_JStringLatin1_charAt_12 : decode k_JStringLatin1_charAt 12 = .ok (.iand, 1) := by decide +kernel
theorem d_JStringLatin1_charAt_13 : decode k_JStringLatin1_charAt 13 = .ok (.i2c, 1) := by decide +kernel
theorem d_JStringLatin1_charAt_14 : decode k_JStringLatin1_charAt 14 = .ok (.ireturn, 1) := by decide +kernel
theorem d_JPreconditions_checkIndex_0 : decode k_JPreconditions_checkIndex 0 = .ok (.iload_n 0, 1) := by decide +kernel
theorem d_JPreconditions_checkIndex_1 : decode k_JPreconditions_checkIndex 1 = .ok (.ifCond .lt 8, 3) := by decide +kernel
theorem d_JPreconditions_checkIndex_4 : decode k_JPreconditions_checkIndex 4 = .ok (.iload_n 0, 1) := by decide +kernel
theorem d_JPreconditions_checkIndex_5 : decode k_JPreconditions_checkIndex 5 = .ok (.iload_n 1, 1) := by decide +kernel
theorem d_JPreconditions_checkIndex_6 : decode k_JPreconditions_checkIndex 6 = .ok (.if_icmp .lt 10, 3) := by decide +kernel
theorem d_JPreconditions_checkIndex_9 : decode k_JPreconditions_checkIndex 9 = .ok (.aload_n 2, 1) := by decide +kernel
theorem d_JPreconditions_checkIndex_10 : decode k_JPreconditions_checkIndex 10 = .ok (.iload_n 0, 1) := by decide +kernel
theorem d_JPreconditions_checkIndex_11 : decode k_JPreconditions_checkIndex 11 = .ok (.iload_n 1, 1) := by decide +kernel
theorem d_JPreconditions_checkIndex_12 : decode k_JPreconditions_checkIndex 12 = .ok (.invokestatic 95, 3) := by decide +kernel
theorem d_JPreconditions_checkIndex_15 : decode k_JPreconditions_checkIndex 15 = .ok (.athrow, 1) := by decide +kernel
theorem d_JPreconditions_checkIndex_16 : decode k_JPreconditions_checkIndex 16 = .ok (.iload_n 0, 1) := by decide +kernel
theorem d_JPreconditions_checkIndex_17 : decode k_JPreconditions_checkIndex 17 = .ok (.ireturn, 1) := by decide +kernel
