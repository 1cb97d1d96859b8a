theorem d_M_thrown_0 : decode k_M_thrown 0 = .ok (.aload_n 0, 1) := by decide +kernel
theorem d_M_thrown_1 : decode k_M_thrown 1 = .ok (.getfield 59, 3) := by decide +kernel
theorem d_M_thrown_4 : decode k_M_thrown 4 = .ok (.ireturn, 1) := by decide +kernel
theorem d_M_fail_0 : decode k_M_fail 0 = .ok (.aload_n 0, 1) := by decide +kernel
theorem d_M_fail_1 : decode k_M_fail 1 = .ok (.iload_n 1, 1) := by decide +kernel
theorem d_M_fail_2 : decode k_M_fail 2 = .ok (.putfield 59, 3) := by decide +kernel
theorem d_M_fail_5 : decode k_M_fail 5 = .ok (.iconst 0, 1) := by decide +kernel
theorem d_M_fail_6 : decode k_M_fail 6 = .ok (.ireturn, 1) := by decide +kernel
theorem d_M_within_0 : decode k_M_within 0 = .ok (.iload_n 0, 1) := by decide +kernel
theorem d_M_within_1 : decode k_M_within 1 = .ok (.iload_n 1, 1) := by decide +kernel
theorem d_M_within_2 : decode k_M_within 2 = .ok (.if_icmp .lt 12, 3) := by decide +kernel
theorem d_M_within_5 : decode k_M_within 5 = .ok (.iload_n 0, 1) := by decide +kernel
theorem d_M_within_6 : decode k_M_within 6 = .ok (.iload_n 2, 1) := by decide +kernel
theorem d_M_within_7 : decode k_M_within 7 = .ok (.if_icmp .gt 7, 3) := by decide +kernel
theorem d_M_within_10 : decode k_M_within 10 = .ok (.iconst 1, 1) := by decide +kernel
theorem d_M_within_11 : decode k_M_within 11 = .ok (.goto 4, 3) := by decide +kernel
theorem d_M_within_14 : decode k_M_within 14 = .ok (.iconst 0, 1) := by decide +kernel
theorem d_M_within_15 : decode k_M_within 15 = .ok (.ireturn, 1) := by decide +kernel
theorem d_M_isSlot_0 : decode k_M_isSlot 0 = .ok (.iload_n 0, 1) := by decide +kernel
theorem d_M_isSlot_1 : decode k_M_isSlot 1 = .ok (.iconst 0, 1) := by decide +kernel
theorem d_M_isSlot_2 : decode k_M_isSlot 2 = .ok (.iconst 3, 1) := by decide +kernel
theorem d_M_isSlot_3 : decode k_M_isSlot 3 = .ok (.invokestatic 62, 3) := by decide +kernel
theorem d_M_isSlot_6 : decode k_M_isSlot 6 = .ok (.ireturn, 1) := by decide +kernel
theorem d_M_feed_0 : decode k_M_feed 0 = .ok (.aload_n 0, 1) := by decide +kernel
theorem d_M_feed_1 : decode k_M_feed 1 = .ok (.iconst 0, 1) := by decide +kernel
theorem d_M_feed_2 : decode k_M_feed 2 = .ok (.putfield 59, 3) := by decide +kernel
theorem d_M_feed_5 : decode k_M_feed 5 = .ok (.aload_n 0, 1) := by decide +kernel
theorem d_M_feed_6 : decode k_M_feed 6 = .ok (.getfield 66, 3) := by decide +kernel
theorem d_M_feed_9 : decode k_M_feed 9 = .ok (.bipush 20, 2) := by decide +kernel
theorem d_M_feed_11 : decode k_M_feed 11 = .ok (.iadd, 1) := by decide +kernel
theorem d_M_feed_12 : decode k_M_feed 12 = .ok (.ldc 16, 2) := by decide +kernel
theorem d_M_feed_14 : decode k_M_feed 14 = .ok (.if_icmp .le 9, 3) := by decide +kernel
theorem d_M_feed_17 : decode k_M_feed 17 = .ok (.aload_n 0, 1) := by decide +kernel
theorem d_M_feed_18 : decode k_M_feed 18 = .ok (.iconst 1, 1) := by decide +kernel
theorem d_M_feed_19 : decode k_M_feed 19 = .ok (.invokevirtual 69, 3) := by decide +kernel
theorem d_M_feed_22 : decode k_M_feed 22 = .ok (.ireturn, 1) := by decide +kernel
theorem d_M_feed_23 : decode k_M_feed 23 = .ok (.iconst 0, 1) := by decide +kernel
theorem d_M_feed_24 : decode k_M_feed 24 = .ok (.istore 6, 2) := by decide +kernel
theorem d_M_feed_26 : decode k_M_feed 26 = .ok (.iload 6, 2) := by decide +kernel
theorem d_M_feed_28 : decode k_M_feed 28 = .ok (.bipush 20, 2) := by decide +kernel
theorem d_M_feed_30 : decode k_M_feed 30 = .ok (.if_icmp .ge 86, 3) := by decide +kernel
theorem d_M_feed_33 : decode k_M_feed 33 = .ok (.iload 6, 2) := by decide +kernel
theorem d_M_feed_35 : decode k_M_feed 35 = .ok (.iconst 4, 1) := by decide +kernel
theorem d_M_feed_36 : decode k_M_feed 36 = .ok (.if_icmp .ge 7, 3) := by decide +kernel
theorem d_M_feed_39 : decode k_M_feed 39 = .ok (.iload_n 1, 1) := by decide +kernel
theorem d_M_feed_40 : decode k_M_feed 40 = .ok (.goto 39, 3) := by decide +kernel
theorem d_M_feed_43 : decode k_M_feed 43 = .ok (.iload 6, 2) := by decide +kernel
theorem d_M_feed_45 : decode k_M_feed 45 = .ok (.bipush 8, 2) := by decide +kernel
theorem d_M_feed_47 : decode k_M_feed 47 = .ok (.if_icmp .ge 7, 3) := by decide +kernel
theorem d_M_feed_50 : decode k_M_feed 50 = .ok (.iload_n 2, 1) := by decide +kernel
theorem d_M_feed_51 : decode k_M_feed 51 = .ok (.goto 28, 3) := by decide +kernel
theorem d_M_feed_54 : decode k_M_feed 54 = .ok (.iload 6, 2) := by decide +kernel
theorem d_M_feed_56 : decode k_M_feed 56 = .ok (.bipush 12, 2) := by decide +kernel
theorem d_M_feed_58 : decode k_M_feed 58 = .ok (.if_icmp .ge 7, 3) := by decide +kernel
theorem d_M_feed_61 : decode k_M_feed 61 = .ok (.iload_n 3, 1) := by decide +kernel
theorem d_M_feed_62 : decode k_M_feed 62 = .ok (.goto 17, 3) := by decide +kernel
theorem d_M_feed_65 : decode k_M_feed 65 = .ok (.iload 6, 2) := by decide +kernel
theorem d_M_feed_67 : decode k_M_feed 67 = .ok (.bipush 16, 2) := by decide +kernel
theorem d_M_feed_69 : decode k_M_feed 69 = .ok (.if_icmp .ge 8, 3) := by decide +kernel
theorem d_M_feed_72 : decode k_M_feed 72 = .ok (.iload 4, 2) := by decide +kernel
theorem d_M_feed_74 : decode k_M_feed 74 = .ok (.goto 5, 3) := by decide +kernel
theorem d_M_feed_77 : decode k_M_feed 77 = .ok (.iload 5, 2) := by decide +kernel
theorem d_M_feed_79 : decode k_M_feed 79 = .ok (.istore 7, 2) := by decide +kernel
theorem d_M_feed_81 : decode k_M_feed 81 = .ok (.aload_n 0, 1) := by decide +kernel
theorem d_M_feed_82 : decode k_M_feed 82 = .ok (.getfield 17, 3) := by decide +kernel
theorem d_M_feed_85 : decode k_M_feed 85 = .ok (.aload_n 0, 1) := by decide +kernel
theorem d_M_feed_86 : decode k_M_feed 86 = .ok (.getfield 66, 3) := by decide +kernel
theorem d_M_feed_89 : decode k_M_feed 89 = .ok (.iload 6, 2) := by decide +kernel
theorem d_M_feed_91 : decode k_M_feed 91 = .ok (.iadd, 1) := by decide +kernel
theorem d_M_feed_92 : decode k_M_feed 92 = .ok (.iload 7, 2) := by decide +kernel
theorem d_M_feed_94 : decode k_M_feed 94 = .ok (.bipush 24, 2) := by decide +kernel
theorem d_M_feed_96 : decode k_M_feed 96 = .ok (.bipush 8, 2) := by decide +kernel
theorem d_M_feed_98 : decode k_M_feed 98 = .ok (.iload 6, 2) := by decide +kernel
theorem d_M_feed_100 : decode k_M_feed 100 = .ok (.iconst 4, 1) := by decide +kernel
theorem d_M_feed_101 : decode k_M_feed 101 = .ok (.irem, 1) := by decide +kernel
theorem d_M_feed_102 : decode k_M_feed 102 = .ok (.imul, 1) := by decide +kernel
theorem d_M_feed_103 : decode k_M_feed 103 = .ok (.isub, 1) := by decide +kernel
theorem d_M_feed_104 : decode k_M_feed 104 = .ok (.ishr, 1) := by decide +kernel
theorem d_M_feed_105 : decode k_M_feed 105 = .ok (.sipush 255, 3) := by decide +kernel
theorem d_M_feed_108 : decode k_M_feed 108 = .ok (.iand, 1) := by decide +kernel
theorem d_M_feed_109 : decode k_M_feed 109 = .ok (.iastore, 1) := by decide +kernel
theorem d_M_feed_110 : decode k_M_feed 110 = .ok (.iinc 6 1, 3) := by decide +kernel
theorem d_M_feed_113 : decode k_M_feed 113 = .ok (.goto (-87), 3) := by decide +kernel
theorem d_M_feed_116 : decode k_M_feed 116 = .ok (.aload_n 0, 1) := by decide +kernel
theorem d_M_feed_117 : decode k_M_feed 117 = .ok (.dup, 1) := by decide +kernel
theorem d_M_feed_118 : decode k_M_feed 118 = .ok (.getfield 66, 3) := by decide +kernel
theorem d_M_feed_121 : decode k_M_feed 121 = .ok (.bipush 20, 2) := by decide +kernel
theorem d_M_feed_123 : decode k_M_feed 123 = .ok (.iadd, 1) := by decide +kernel
theorem d_M_feed_124 : decode k_M_feed 124 = .ok (.putfield 66, 3) := by decide +kernel
theorem d_M_feed_127 : decode k_M_feed 127 = .ok (.aload_n 0, 1) := by decide +kernel
theorem d_M_feed_128 : decode k_M_feed 128 = .ok (.getfield 66, 3) := by decide +kernel
theorem d_M_feed_131 : decode k_M_feed 131 = .ok (.ireturn, 1) := by decide +kernel
theorem d_M_end_0 : decode k_M_end 0 = .ok (.aload_n 0, 1) := by decide +kernel
theorem d_M_end_1 : decode k_M_end 1 = .ok (.iconst 0, 1) := by decide +kernel
theorem d_M_end_2 : decode k_M_end 2 = .ok (.putfield 59, 3) := by decide +kernel
theorem d_M_end_5 : decode k_M_end 5 = .ok (.iload_n 1, 1) := by decide +kernel
theorem d_M_end_6 : decode k_M_end 6 = .ok (.iconst 0, 1) := by decide +kernel
theorem d_M_end_7 : decode k_M_end 7 = .ok (.bipush 20, 2) := by decide +kernel
theorem d_M_end_9 : decode k_M_end 9 = .ok (.invokestatic 62, 3) := by decide +kernel
theorem d_M_end_12 : decode k_M_end 12 = .ok (.ifCond .ne 9, 3) := by decide +kernel
theorem d_M_end_15 : decode k_M_end 15 = .ok (.aload_n 0, 1) := by decide +kernel
theorem d_M_end_16 : decode k_M_end 16 = .ok (.iconst 1, 1) := by decide +kernel
theorem d_M_end_17 : decode k_M_end 17 = .ok (.invokevirtual 69, 3) := by decide +kernel
theorem d_M_end_20 : decode k_M_end 20 = .ok (.ireturn, 1) := by decide +kernel
theorem d_M_end_21 : decode k_M_end 21 = .ok (.aload_n 0, 1) := by decide +kernel
theorem d_M_end_22 : decode k_M_end 22 = .ok (.getfield 66, 3) := by decide +kernel
theorem d_M_end_25 : decode k_M_end 25 = .ok (.bipush 20, 2) := by decide +kernel
theorem d_M_end_27 : decode k_M_end 27 = .ok (.if_icmp .ge 9, 3) := by decide +kernel
theorem d_M_end_30 : decode k_M_end 30 = .ok (.aload_n 0, 1) := by decide +kernel
theorem d_M_end_31 : decode k_M_end 31 = .ok (.iconst 2, 1) := by decide +kernel
theorem d_M_end_32 : decode k_M_end 32 = .ok (.invokevirtual 69, 3) := by decide +kernel
theorem d_M_end_35 : decode k_M_end 35 = .ok (.ireturn, 1) := by decide +kernel
theorem d_M_end_36 : decode k_M_end 36 = .ok (.aload_n 0, 1) := by decide +kernel
theorem d_M_end_37 : decode k_M_end 37 = .ok (.dup, 1) := by decide +kernel
theorem d_M_end_38 : decode k_M_end 38 = .ok (.getfield 66, 3) := by decide +kernel
theorem d_M_end_41 : decode k_M_end 41 = .ok (.bipush 20, 2) := by decide +kernel
theorem d_M_end_43 : decode k_M_end 43 = .ok (.iload_n 1, 1) := by decide +kernel
theorem d_M_end_44 : decode k_M_end 44 = .ok (.isub, 1) := by decide +kernel
theorem d_M_end_45 : decode k_M_end 45 = .ok (.isub, 1) := by decide +kernel
theorem d_M_end_46 : decode k_M_end 46 = .ok (.putfield 66, 3) := by decide +kernel
theorem d_M_end_49 : decode k_M_end 49 = .ok (.aload_n 0, 1) := by decide +kernel
theorem d_M_end_50 : decode k_M_end 50 = .ok (.getfield 66, 3) := by decide +kernel
theorem d_M_end_53 : decode k_M_end 53 = .ok (.ireturn, 1) := by decide +kernel
theorem d_M_isBlank_0 : decode k_M_isBlank 0 = .ok (.iload_n 0, 1) := by decide +kernel
theorem d_M_isBlank_1 : decode k_M_isBlank 1 = .ok (.bipush 32, 2) := by decide +kernel
theorem d_M_isBlank_3 : decode k_M_isBlank 3 = .ok (.if_icmp .eq 21, 3) := by decide +kernel
theorem d_M_isBlank_6 : decode k_M_isBlank 6 = .ok (.iload_n 0, 1) := by decide +kernel
theorem d_M_isBlank_7 : decode k_M_isBlank 7 = .ok (.bipush 9, 2) := by decide +kernel
theorem d_M_isBlank_9 : decode k_M_isBlank 9 = .ok (.if_icmp .eq 15, 3) := by decide +kernel
theorem d_M_isBlank_12 : decode k_M_isBlank 12 = .ok (.iload_n 0, 1) := by decide +kernel
theorem d_M_isBlank_13 : decode k_M_isBlank 13 = .ok (.bipush 10, 2) := by decide +kernel
theorem d_M_isBlank_15 : decode k_M_isBlank 15 = .ok (.if_icmp .eq 9, 3) := by decide +kernel
theorem d_M_isBlank_18 : decode k_M_isBlank 18 = .ok (.iload_n 0, 1) := by decide +kernel
theorem d_M_isBlank_19 : decode k_M_isBlank 19 = .ok (.bipush 13, 2) := by decide +kernel
theorem d_M_isBlank_21 : decode k_M_isBlank 21 = .ok (.if_icmp .ne 7, 3) := by decide +kernel
theorem d_M_isBlank_24 : decode k_M_isBlank 24 = .ok (.iconst 1, 1) := by decide +kernel
theorem d_M_isBlank_25 : decode k_M_isBlank 25 = .ok (.goto 4, 3) := by decide +kernel
theorem d_M_isBlank_28 : decode k_M_isBlank 28 = .ok (.iconst 0, 1) := by decide +kernel
theorem d_M_isBlank_29 : decode k_M_isBlank 29 = .ok (.ireturn, 1) := by decide +kernel
theorem d_M_isLetter_0 : decode k_M_isLetter 0 = .ok (.iload_n 0, 1) := by decide +kernel
theorem d_M_isLetter_1 : decode k_M_isLetter 1 = .ok (.bipush 65, 2) := by decide +kernel
theorem d_M_isLetter_3 : decode k_M_isLetter 3 = .ok (.bipush 90, 2) := by decide +kernel
theorem d_M_isLetter_5 : decode k_M_isLetter 5 = .ok (.invokestatic 62, 3) := by decide +kernel
theorem d_M_isLetter_8 : decode k_M_isLetter 8 = .ok (.ifCond .ne 14, 3) := by decide +kernel
theorem d_M_isLetter_11 : decode k_M_isLetter 11 = .ok (.iload_n 0, 1) := by decide +kernel
theorem d_M_isLetter_12 : decode k_M_isLetter 12 = .ok (.bipush 97, 2) := by decide +kernel
theorem d_M_isLetter_14 : decode k_M_isLetter 14 = .ok (.bipush 122, 2) := by decide +kernel
theorem d_M_isLetter_16 : decode k_M_isLetter 16 = .ok (.invokestatic 62, 3) := by decide +kernel
theorem d_M_isLetter_19 : decode k_M_isLetter 19 = .ok (.ifCond .eq 7, 3) := by decide +kernel
theorem d_M_isLetter_22 : decode k_M_isLetter 22 = .ok (.iconst 1, 1) := by decide +kernel
theorem d_M_isLetter_23 : decode k_M_isLetter 23 = .ok (.goto 4, 3) := by decide +kernel
theorem d_M_isLetter_26 : decode k_M_isLetter 26 = .ok (.iconst 0, 1) := by decide +kernel
theorem d_M_isLetter_27 : decode k_M_isLetter 27 = .ok (.ireturn, 1) := by decide +kernel
theorem d_M_isDigit_0 : decode k_M_isDigit 0 = .ok (.iload_n 0, 1) := by decide +kernel
theorem d_M_isDigit_1 : decode k_M_isDigit 1 = .ok (.bipush 48, 2) := by decide +kernel
theorem d_M_isDigit_3 : decode k_M_isDigit 3 = .ok (.bipush 57, 2) := by decide +kernel
theorem d_M_isDigit_5 : decode k_M_isDigit 5 = .ok (.invokestatic 62, 3) := by decide +kernel
theorem d_M_isDigit_8 : decode k_M_isDigit 8 = .ok (.ireturn, 1) := by decide +kernel
theorem d_M_isSign_0 : decode k_M_isSign 0 = .ok (.iload_n 0, 1) := by decide +kernel
theorem d_M_isSign_1 : decode k_M_isSign 1 = .ok (.bipush 43, 2) := by decide +kernel
theorem d_M_isSign_3 : decode k_M_isSign 3 = .ok (.if_icmp .eq 9, 3) := by decide +kernel
theorem d_M_isSign_6 : decode k_M_isSign 6 = .ok (.iload_n 0, 1) := by decide +kernel
theorem d_M_isSign_7 : decode k_M_isSign 7 = .ok (.bipush 45, 2) := by decide +kernel
theorem d_M_isSign_9 : decode k_M_isSign 9 = .ok (.if_icmp .ne 7, 3) := by decide +kernel
theorem d_M_isSign_12 : decode k_M_isSign 12 = .ok (.iconst 1, 1) := by decide +kernel
theorem d_M_isSign_13 : decode k_M_isSign 13 = .ok (.goto 4, 3) := by decide +kernel
theorem d_M_isSign_16 : decode k_M_isSign 16 = .ok (.iconst 0, 1) := by decide +kernel
theorem d_M_isSign_17 : decode k_M_isSign 17 = .ok (.ireturn, 1) := by decide +kernel
theorem d_M_isKnown_0 : decode k_M_isKnown 0 = .ok (.iload_n 0, 1) := by decide +kernel
theorem d_M_isKnown_1 : decode k_M_isKnown 1 = .ok (.invokestatic 73, 3) := by decide +kernel
theorem d_M_isKnown_4 : decode k_M_isKnown 4 = .ok (.ifCond .ne 41, 3) := by decide +kernel
theorem d_M_isKnown_7 : decode k_M_isKnown 7 = .ok (.iload_n 0, 1) := by decide +kernel
theorem d_M_isKnown_8 : decode k_M_isKnown 8 = .ok (.invokestatic 77, 3) := by decide +kernel
theorem d_M_isKnown_11 : decode k_M_isKnown 11 = .ok (.ifCond .ne 34, 3) := by decide +kernel
theorem d_M_isKnown_14 : decode k_M_isKnown 14 = .ok (.iload_n 0, 1) := by decide +kernel
theorem d_M_isKnown_15 : decode k_M_isKnown 15 = .ok (.invokestatic 80, 3) := by decide +kernel
theorem d_M_isKnown_18 : decode k_M_isKnown 18 = .ok (.ifCond .ne 27, 3) := by decide +kernel
theorem d_M_isKnown_21 : decode k_M_isKnown 21 = .ok (.iload_n 0, 1) := by decide +kernel
theorem d_M_isKnown_22 : decode k_M_isKnown 22 = .ok (.bipush 46, 2) := by decide +kernel
theorem d_M_isKnown_24 : decode k_M_isKnown 24 = .ok (.if_icmp .eq 21, 3) := by decide +kernel
theorem d_M_isKnown_27 : decode k_M_isKnown 27 = .ok (.iload_n 0, 1) := by decide +kernel
theorem d_M_isKnown_28 : decode k_M_isKnown 28 = .ok (.bipush 40, 2) := by decide +kernel
theorem d_M_isKnown_30 : decode k_M_isKnown 30 = .ok (.if_icmp .eq 15, 3) := by decide +kernel
theorem d_M_isKnown_33 : decode k_M_isKnown 33 = .ok (.iload_n 0, 1) := by decide +kernel
theorem d_M_isKnown_34 : decode k_M_isKnown 34 = .ok (.bipush 41, 2) := by decide +kernel
theorem d_M_isKnown_36 : decode k_M_isKnown 36 = .ok (.if_icmp .eq 9, 3) := by decide +kernel
theorem d_M_isKnown_39 : decode k_M_isKnown 39 = .ok (.iload_n 0, 1) := by decide +kernel
theorem d_M_isKnown_40 : decode k_M_isKnown 40 = .ok (.bipush 44, 2) := by decide +kernel
theorem d_M_isKnown_42 : decode k_M_isKnown 42 = .ok (.if_icmp .ne 7, 3) := by decide +kernel
theorem d_M_isKnown_45 : decode k_M_isKnown 45 = .ok (.iconst 1, 1) := by decide +kernel
theorem d_M_isKnown_46 : decode k_M_isKnown 46 = .ok (.goto 4, 3) := by decide +kernel
theorem d_M_isKnown_49 : decode k_M_isKnown 49 = .ok (.iconst 0, 1) := by decide +kernel
theorem d_M_isKnown_50 : decode k_M_isKnown 50 = .ok (.ireturn, 1) := by decide +kernel
theorem d_M_here_0 : decode k_M_here 0 = .ok (.aload_n 0, 1) := by decide +kernel
theorem d_M_here_1 : decode k_M_here 1 = .ok (.getfield 83, 3) := by decide +kernel
theorem d_M_here_4 : decode k_M_here 4 = .ok (.aload_n 0, 1) := by decide +kernel
theorem d_M_here_5 : decode k_M_here 5 = .ok (.getfield 66, 3) := by decide +kernel
theorem d_M_here_8 : decode k_M_here 8 = .ok (.if_icmp .ge 15, 3) := by decide +kernel
theorem d_M_here_11 : decode k_M_here 11 = .ok (.aload_n 0, 1) := by decide +kernel
theorem d_M_here_12 : decode k_M_here 12 = .ok (.getfield 17, 3) := by decide +kernel
theorem d_M_here_15 : decode k_M_here 15 = .ok (.aload_n 0, 1) := by decide +kernel
theorem d_M_here_16 : decode k_M_here 16 = .ok (.getfield 83, 3) := by decide +kernel
theorem d_M_here_19 : decode k_M_here 19 = .ok (.iaload, 1) := by decide +kernel
theorem d_M_here_20 : decode k_M_here 20 = .ok (.goto 4, 3) := by decide +kernel
theorem d_M_here_23 : decode k_M_here 23 = .ok (.iconst (-1), 1) := by decide +kernel
theorem d_M_here_24 : decode k_M_here 24 = .ok (.ireturn, 1) := by decide +kernel
theorem d_M_pass_0 : decode k_M_pass 0 = .ok (.aload_n 0, 1) := by decide +kernel
theorem d_M_pass_1 : decode k_M_pass 1 = .ok (.getfield 83, 3) := by decide +kernel
theorem d_M_pass_4 : decode k_M_pass 4 = .ok (.aload_n 0, 1) := by decide +kernel
theorem d_M_pass_5 : decode k_M_pass 5 = .ok (.getfield 66, 3) := by decide +kernel
theorem d_M_pass_8 : decode k_M_pass 8 = .ok (.if_icmp .ge 31, 3) := by decide +kernel
theorem d_M_pass_11 : decode k_M_pass 11 = .ok (.aload_n 0, 1) := by decide +kernel
theorem d_M_pass_12 : decode k_M_pass 12 = .ok (.getfield 17, 3) := by decide +kernel
theorem d_M_pass_15 : decode k_M_pass 15 = .ok (.aload_n 0, 1) := by decide +kernel
theorem d_M_pass_16 : decode k_M_pass 16 = .ok (.getfield 83, 3) := by decide +kernel
theorem d_M_pass_19 : decode k_M_pass 19 = .ok (.iaload, 1) := by decide +kernel
theorem d_M_pass_20 : decode k_M_pass 20 = .ok (.invokestatic 86, 3) := by decide +kernel
theorem d_M_pass_23 : decode k_M_pass 23 = .ok (.ifCond .eq 16, 3) := by decide +kernel
theorem d_M_pass_26 : decode k_M_pass 26 = .ok (.aload_n 0, 1) := by decide +kernel
theorem d_M_pass_27 : decode k_M_pass 27 = .ok (.dup, 1) := by decide +kernel
theorem d_M_pass_28 : decode k_M_pass 28 = .ok (.getfield 83, 3) := by decide +kernel
theorem d_M_pass_31 : decode k_M_pass 31 = .ok (.iconst 1, 1) := by decide +kernel
theorem d_M_pass_32 : decode k_M_pass 32 = .ok (.iadd, 1) := by decide +kernel
theorem d_M_pass_33 : decode k_M_pass 33 = .ok (.putfield 83, 3) := by decide +kernel
theorem d_M_pass_36 : decode k_M_pass 36 = .ok (.goto (-36), 3) := by decide +kernel
theorem d_M_pass_39 : decode k_M_pass 39 = .ok (.return_, 1) := by decide +kernel
theorem d_M_wrong_0 : decode k_M_wrong 0 = .ok (.aload_n 0, 1) := by decide +kernel
theorem d_M_wrong_1 : decode k_M_wrong 1 = .ok (.iload_n 1, 1) := by decide +kernel
theorem d_M_wrong_2 : decode k_M_wrong 2 = .ok (.putfield 89, 3) := by decide +kernel
theorem d_M_wrong_5 : decode k_M_wrong 5 = .ok (.aload_n 0, 1) := by decide +kernel
theorem d_M_wrong_6 : decode k_M_wrong 6 = .ok (.iload_n 2, 1) := by decide +kernel
theorem d_M_wrong_7 : decode k_M_wrong 7 = .ok (.putfield 92, 3) := by decide +kernel
theorem d_M_wrong_10 : decode k_M_wrong 10 = .ok (.iconst 0, 1) := by decide +kernel
theorem d_M_wrong_11 : decode k_M_wrong 11 = .ok (.ireturn, 1) := by decide +kernel
theorem d_M_unexpected_0 : decode k_M_unexpected 0 = .ok (.aload_n 0, 1) := by decide +kernel
theorem d_M_unexpected_1 : decode k_M_unexpected 1 = .ok (.aload_n 0, 1) := by decide +kernel
theorem d_M_unexpected_2 : decode k_M_unexpected 2 = .ok (.invokevirtual 95, 3) := by decide +kernel
theorem d_M_unexpected_5 : decode k_M_unexpected 5 = .ok (.iconst (-1), 1) := by decide +kernel
theorem d_M_unexpected_6 : decode k_M_unexpected 6 = .ok (.if_icmp .eq 13, 3) := by decide +kernel
theorem d_M_unexpected_9 : decode k_M_unexpected 9 = .ok (.aload_n 0, 1) := by decide +kernel
theorem d_M_unexpected_10 : decode k_M_unexpected 10 = .ok (.invokevirtual 95, 3) := by decide +kernel
theorem d_M_unexpected_13 : decode k_M_unexpected 13 = .ok (.invokestatic 99, 3) := by decide +kernel
theorem d_M_unexpected_16 : decode k_M_unexpected 16 = .ok (.ifCond .eq 7, 3) := by decide +kernel
theorem d_M_unexpected_19 : decode k_M_unexpected 19 = .ok (.iconst 3, 1) := by decide +kernel
theorem d_M_unexpected_20 : decode k_M_unexpected 20 = .ok (.goto 4, 3) := by decide +kernel
theorem d_M_unexpected_23 : decode k_M_unexpected 23 = .ok (.iconst 1, 1) := by decide +kernel
theorem d_M_unexpected_24 : decode k_M_unexpected 24 = .ok (.aload_n 0, 1) := by decide +kernel
theorem d_M_unexpected_25 : decode k_M_unexpected 25 = .ok (.getfield 83, 3) := by decide +kernel
theorem d_M_unexpected_28 : decode k_M_unexpected 28 = .ok (.invokevirtual 102, 3) := by decide +kernel
theorem d_M_unexpected_31 : decode k_M_unexpected 31 = .ok (.ireturn, 1) := by decide +kernel
theorem d_M_word_0 : decode k_M_word 0 = .ok (.aload_n 0, 1) := by decide +kernel
theorem d_M_word_1 : decode k_M_word 1 = .ok (.getfield 83, 3) := by decide +kernel
theorem d_M_word_4 : decode k_M_word 4 = .ok (.istore_n 1, 1) := by decide +kernel
theorem d_M_word_5 : decode k_M_word 5 = .ok (.aload_n 0, 1) := by decide +kernel
theorem d_M_word_6 : decode k_M_word 6 = .ok (.invokevirtual 95, 3) := by decide +kernel
theorem d_M_word_9 : decode k_M_word 9 = .ok (.invokestatic 73, 3) := by decide +kernel
theorem d_M_word_12 : decode k_M_word 12 = .ok (.ifCond .eq 16, 3) := by decide +kernel
theorem d_M_word_15 : decode k_M_word 15 = .ok (.aload_n 0, 1) := by decide +kernel
theorem d_M_word_16 : decode k_M_word 16 = .ok (.dup, 1) := by decide +kernel
theorem d_M_word_17 : decode k_M_word 17 = .ok (.getfield 83, 3) := by decide +kernel
theorem d_M_word_20 : decode k_M_word 20 = .ok (.iconst 1, 1) := by decide +kernel
theorem d_M_word_21 : decode k_M_word 21 = .ok (.iadd, 1) := by decide +kernel
theorem d_M_word_22 : decode k_M_word 22 = .ok (.putfield 83, 3) := by decide +kernel
theorem d_M_word_25 : decode k_M_word 25 = .ok (.goto (-20), 3) := by decide +kernel
theorem d_M_word_28 : decode k_M_word 28 = .ok (.iconst 0, 1) := by decide +kernel
theorem d_M_word_29 : decode k_M_word 29 = .ok (.istore_n 2, 1) := by decide +kernel
theorem d_M_word_30 : decode k_M_word 30 = .ok (.iconst 1, 1) := by decide +kernel
theorem d_M_word_31 : decode k_M_word 31 = .ok (.istore_n 3, 1) := by decide +kernel
theorem d_M_word_32 : decode k_M_word 32 = .ok (.iload_n 3, 1) := by decide +kernel
theorem d_M_word_33 : decode k_M_word 33 = .ok (.bipush 8, 2) := by decide +kernel
theorem d_M_word_35 : decode k_M_word 35 = .ok (.if_icmp .gt 112, 3) := by decide +kernel
theorem d_M_word_38 : decode k_M_word 38 = .ok (.aload_n 0, 1) := by decide +kernel
theorem d_M_word_39 : decode k_M_word 39 = .ok (.getfield 13, 3) := by decide +kernel
theorem d_M_word_42 : decode k_M_word 42 = .ok (.iload_n 3, 1) := by decide +kernel
theorem d_M_word_43 : decode k_M_word 43 = .ok (.iconst 1, 1) := by decide +kernel
theorem d_M_word_44 : decode k_M_word 44 = .ok (.iadd, 1) := by decide +kernel
theorem d_M_word_45 : decode k_M_word 45 = .ok (.iaload, 1) := by decide +kernel
theorem d_M_word_46 : decode k_M_word 46 = .ok (.aload_n 0, 1) := by decide +kernel
theorem d_M_word_47 : decode k_M_word 47 = .ok (.getfield 13, 3) := by decide +kernel
theorem d_M_word_50 : decode k_M_word 50 = .ok (.iload_n 3, 1) := by decide +kernel
theorem d_M_word_51 : decode k_M_word 51 = .ok (.iaload, 1) := by decide +kernel
theorem d_M_word_52 : decode k_M_word 52 = .ok (.isub, 1) := by decide +kernel
theorem d_M_word_53 : decode k_M_word 53 = .ok (.istore 4, 2) := by decide +kernel
theorem d_M_word_55 : decode k_M_word 55 = .ok (.iload 4, 2) := by decide +kernel
theorem d_M_word_57 : decode k_M_word 57 = .ok (.aload_n 0, 1) := by decide +kernel
theorem d_M_word_58 : decode k_M_word 58 = .ok (.getfield 83, 3) := by decide +kernel
theorem d_M_word_61 : decode k_M_word 61 = .ok (.iload_n 1, 1) := by decide +kernel
theorem d_M_word_62 : decode k_M_word 62 = .ok (.isub, 1) := by decide +kernel
theorem d_M_word_63 : decode k_M_word 63 = .ok (.if_icmp .ne 7, 3) := by decide +kernel
theorem d_M_word_66 : decode k_M_word 66 = .ok (.iconst 1, 1) := by decide +kernel
theorem d_M_word_67 : decode k_M_word 67 = .ok (.goto 4, 3) := by decide +kernel
theorem d_M_word_70 : decode k_M_word 70 = .ok (.iconst 0, 1) := by decide +kernel
theorem d_M_word_71 : decode k_M_word 71 = .ok (.istore 5, 2) := by decide +kernel
theorem d_M_word_73 : decode k_M_word 73 = .ok (.iconst 0, 1) := by decide +kernel
theorem d_M_word_74 : decode k_M_word 74 = .ok (.istore 6, 2) := by decide +kernel
theorem d_M_word_76 : decode k_M_word 76 = .ok (.iload 6, 2) := by decide +kernel
theorem d_M_word_78 : decode k_M_word 78 = .ok (.iload 4, 2) := by decide +kernel
theorem d_M_word_80 : decode k_M_word 80 = .ok (.if_icmp .ge 50, 3) := by decide +kernel
theorem d_M_word_83 : decode k_M_word 83 = .ok (.iload 5, 2) := by decide +kernel
theorem d_M_word_85 : decode k_M_word 85 = .ok (.ifCond .eq 45, 3) := by decide +kernel
theorem d_M_word_88 : decode k_M_word 88 = .ok (.aload_n 0, 1) := by decide +kernel
theorem d_M_word_89 : decode k_M_word 89 = .ok (.getfield 17, 3) := by decide +kernel
theorem d_M_word_92 : decode k_M_word 92 = .ok (.iload_n 1, 1) := by decide +kernel
theorem d_M_word_93 : decode k_M_word 93 = .ok (.iload 6, 2) := by decide +kernel
theorem d_M_word_95 : decode k_M_word 95 = .ok (.iadd, 1) := by decide +kernel
theorem d_M_word_96 : decode k_M_word 96 = .ok (.iaload, 1) := by decide +kernel
theorem d_M_word_97 : decode k_M_word 97 = .ok (.bipush 95, 2) := by decide +kernel
theorem d_M_word_99 : decode k_M_word 99 = .ok (.iand, 1) := by decide +kernel
theorem d_M_word_100 : decode k_M_word 100 = .ok (.aload_n 0, 1) := by decide +kernel
theorem d_M_word_101 : decode k_M_word 101 = .ok (.getfield 7, 3) := by decide +kernel
theorem d_M_word_104 : decode k_M_word 104 = .ok (.aload_n 0, 1) := by decide +kernel
theorem d_M_word_105 : decode k_M_word 105 = .ok (.getfield 13, 3) := by decide +kernel
theorem d_M_word_108 : decode k_M_word 108 = .ok (.iload_n 3, 1) := by decide +kernel
theorem d_M_word_109 : decode k_M_word 109 = .ok (.iaload, 1) := by decide +kernel
theorem d_M_word_110 : decode k_M_word 110 = .ok (.iload 6, 2) := by decide +kernel
theorem d_M_word_112 : decode k_M_word 112 = .ok (.iadd, 1) := by decide +kernel
theorem d_M_word_113 : decode k_M_word 113 = .ok (.iaload, 1) := by decide +kernel
theorem d_M_word_114 : decode k_M_word 114 = .ok (.if_icmp .ne 7, 3) := by decide +kernel
theorem d_M_word_117 : decode k_M_word 117 = .ok (.iconst 1, 1) := by decide +kernel
theorem d_M_word_118 : decode k_M_word 118 = .ok (.goto 4, 3) := by decide +kernel
theorem d_M_word_121 : decode k_M_word 121 = .ok (.iconst 0, 1) := by decide +kernel
theorem d_M_word_122 : decode k_M_word 122 = .ok (.istore 5, 2) := by decide +kernel
theorem d_M_word_124 : decode k_M_word 124 = .ok (.iinc 6 1, 3) := by decide +kernel
theorem d_M_word_127 : decode k_M_word 127 = .ok (.goto (-51), 3) := by decide +kernel
theorem d_M_word_130 : decode k_M_word 130 = .ok (.iload 5, 2) := by decide +kernel
theorem d_M_word_132 : decode k_M_word 132 = .ok (.ifCond .eq 7, 3) := by decide +kernel
theorem d_M_word_135 : decode k_M_word 135 = .ok (.iload_n 3, 1) := by decide +kernel
theorem d_M_word_136 : decode k_M_word 136 = .ok (.goto 4, 3) := by decide +kernel
theorem d_M_word_139 : decode k_M_word 139 = .ok (.iload_n 2, 1) := by decide +kernel
theorem d_M_word_140 : decode k_M_word 140 = .ok (.istore_n 2, 1) := by decide +kernel
theorem d_M_word_141 : decode k_M_word 141 = .ok (.iinc 3 1, 3) := by decide +kernel
theorem d_M_word_144 : decode k_M_word 144 = .ok (.goto (-112), 3) := by decide +kernel
theorem d_M_word_147 : decode k_M_word 147 = .ok (.iload_n 2, 1) := by decide +kernel
theorem d_M_word_148 : decode k_M_word 148 = .ok (.ireturn, 1) := by decide +kernel
theorem d_M_must_0 : decode k_M_must 0 = .ok (.aload_n 0, 1) := by decide +kernel
theorem d_M_must_1 : decode k_M_must 1 = .ok (.invokevirtual 106, 3) := by decide +kernel
theorem d_M_must_4 : decode k_M_must 4 = .ok (.aload_n 0, 1) := by decide +kernel
theorem d_M_must_5 : decode k_M_must 5 = .ok (.invokevirtual 95, 3) := by decide +kernel
theorem d_M_must_8 : decode k_M_must 8 = .ok (.iload_n 1, 1) := by decide +kernel
theorem d_M_must_9 : decode k_M_must 9 = .ok (.if_icmp .eq 8, 3) := by decide +kernel
theorem d_M_must_12 : decode k_M_must 12 = .ok (.aload_n 0, 1) := by decide +kernel
theorem d_M_must_13 : decode k_M_must 13 = .ok (.invokevirtual 109, 3) := by decide +kernel
theorem d_M_must_16 : decode k_M_must 16 = .ok (.ireturn, 1) := by decide +kernel
theorem d_M_must_17 : decode k_M_must 17 = .ok (.aload_n 0, 1) := by decide +kernel
theorem d_M_must_18 : decode k_M_must 18 = .ok (.dup, 1) := by decide +kernel
theorem d_M_must_19 : decode k_M_must 19 = .ok (.getfield 83, 3) := by decide +kernel
theorem d_M_must_22 : decode k_M_must 22 = .ok (.iconst 1, 1) := by decide +kernel
theorem d_M_must_23 : decode k_M_must 23 = .ok (.iadd, 1) := by decide +kernel
theorem d_M_must_24 : decode k_M_must 24 = .ok (.putfield 83, 3) := by decide +kernel
theorem d_M_must_27 : decode k_M_must 27 = .ok (.iconst 1, 1) := by decide +kernel
theorem d_M_must_28 : decode k_M_must 28 = .ok (.ireturn, 1) := by decide +kernel
theorem d_M_goesOn_0 : decode k_M_goesOn 0 = .ok (.aload_n 0, 1) := by decide +kernel
theorem d_M_goesOn_1 : decode k_M_goesOn 1 = .ok (.invokevirtual 106, 3) := by decide +kernel
theorem d_M_goesOn_4 : decode k_M_goesOn 4 = .ok (.aload_n 0, 1) := by decide +kernel
theorem d_M_goesOn_5 : decode k_M_goesOn 5 = .ok (.invokevirtual 95, 3) := by decide +kernel
theorem d_M_goesOn_8 : decode k_M_goesOn 8 = .ok (.bipush 44, 2) := by decide +kernel
theorem d_M_goesOn_10 : decode k_M_goesOn 10 = .ok (.if_icmp .eq 19, 3) := by decide +kernel
theorem d_M_goesOn_13 : decode k_M_goesOn 13 = .ok (.aload_n 0, 1) := by decide +kernel
theorem d_M_goesOn_14 : decode k_M_goesOn 14 = .ok (.invokevirtual 95, 3) := by decide +kernel
theorem d_M_goesOn_17 : decode k_M_goesOn 17 = .ok (.bipush 41, 2) := by decide +kernel
theorem d_M_goesOn_19 : decode k_M_goesOn 19 = .ok (.if_icmp .eq 10, 3) := by decide +kernel
theorem d_M_goesOn_22 : decode k_M_goesOn 22 = .ok (.aload_n 0, 1) := by decide +kernel
theorem d_M_goesOn_23 : decode k_M_goesOn 23 = .ok (.invokevirtual 109, 3) := by decide +kernel
theorem d_M_goesOn_26 : decode k_M_goesOn 26 = .ok (.pop, 1) := by decide +kernel
theorem d_M_goesOn_27 : decode k_M_goesOn 27 = .ok (.iconst (-1), 1) := by decide +kernel
theorem d_M_goesOn_28 : decode k_M_goesOn 28 = .ok (.ireturn, 1) := by decide +kernel
theorem d_M_goesOn_29 : decode k_M_goesOn 29 = .ok (.aload_n 0, 1) := by decide +kernel
theorem d_M_goesOn_30 : decode k_M_goesOn 30 = .ok (.dup, 1) := by decide +kernel
theorem d_M_goesOn_31 : decode k_M_goesOn 31 = .ok (.getfield 83, 3) := by decide +kernel
theorem d_M_goesOn_34 : decode k_M_goesOn 34 = .ok (.iconst 1, 1) := by decide +kernel
theorem d_M_goesOn_35 : decode k_M_goesOn 35 = .ok (.iadd, 1) := by decide +kernel
theorem d_M_goesOn_36 : decode k_M_goesOn 36 = .ok (.putfield 83, 3) := by decide +kernel
theorem d_M_goesOn_39 : decode k_M_goesOn 39 = .ok (.aload_n 0, 1) := by decide +kernel
theorem d_M_goesOn_40 : decode k_M_goesOn 40 = .ok (.getfield 17, 3) := by decide +kernel
theorem d_M_goesOn_43 : decode k_M_goesOn 43 = .ok (.aload_n 0, 1) := by decide +kernel
theorem d_M_goesOn_44 : decode k_M_goesOn 44 = .ok (.getfield 83, 3) := by decide +kernel
theorem d_M_goesOn_47 : decode k_M_goesOn 47 = .ok (.iconst 1, 1) := by decide +kernel
theorem d_M_goesOn_48 : decode k_M_goesOn 48 = .ok (.isub, 1) := by decide +kernel
theorem d_M_goesOn_49 : decode k_M_goesOn 49 = .ok (.iaload, 1) := by decide +kernel
theorem d_M_goesOn_50 : decode k_M_goesOn 50 = .ok (.bipush 44, 2) := by decide +kernel
theorem d_M_goesOn_52 : decode k_M_goesOn 52 = .ok (.if_icmp .ne 7, 3) := by decide +kernel
theorem d_M_goesOn_55 : decode k_M_goesOn 55 = .ok (.iconst 1, 1) := by decide +kernel
theorem d_M_goesOn_56 : decode k_M_goesOn 56 = .ok (.goto 4, 3) := by decide +kernel
theorem d_M_goesOn_59 : decode k_M_goesOn 59 = .ok (.iconst 0, 1) := by decide +kernel
theorem d_M_goesOn_60 : decode k_M_goesOn 60 = .ok (.ireturn, 1) := by decide +kernel
theorem d_M_digitsFrom_0 : decode k_M_digitsFrom 0 = .ok (.iconst 0, 1) := by decide +kernel
theorem d_M_digitsFrom_1 : decode k_M_digitsFrom 1 = .ok (.istore_n 1, 1) := by decide +kernel
theorem d_M_digitsFrom_2 : decode k_M_digitsFrom 2 = .ok (.aload_n 0, 1) := by decide +kernel
theorem d_M_digitsFrom_3 : decode k_M_digitsFrom 3 = .ok (.invokevirtual 95, 3) := by decide +kernel
theorem d_M_digitsFrom_6 : decode k_M_digitsFrom 6 = .ok (.invokestatic 77, 3) := by decide +kernel
theorem d_M_digitsFrom_9 : decode k_M_digitsFrom 9 = .ok (.ifCond .eq 19, 3) := by decide +kernel
theorem d_M_digitsFrom_12 : decode k_M_digitsFrom 12 = .ok (.aload_n 0, 1) := by decide +kernel
theorem d_M_digitsFrom_13 : decode k_M_digitsFrom 13 = .ok (.dup, 1) := by decide +kernel
theorem d_M_digitsFrom_14 : decode k_M_digitsFrom 14 = .ok (.getfield 83, 3) := by decide +kernel
theorem d_M_digitsFrom_17 : decode k_M_digitsFrom 17 = .ok (.iconst 1, 1) := by decide +kernel
theorem d_M_digitsFrom_18 : decode k_M_digitsFrom 18 = .ok (.iadd, 1) := by decide +kernel
theorem d_M_digitsFrom_19 : decode k_M_digitsFrom 19 = .ok (.putfield 83, 3) := by decide +kernel
theorem d_M_digitsFrom_22 : decode k_M_digitsFrom 22 = .ok (.iinc 1 1, 3) := by decide +kernel
theorem d_M_digitsFrom_25 : decode k_M_digitsFrom 25 = .ok (.goto (-23), 3) := by decide +kernel
theorem d_M_digitsFrom_28 : decode k_M_digitsFrom 28 = .ok (.iload_n 1, 1) := by decide +kernel
theorem d_M_digitsFrom_29 : decode k_M_digitsFrom 29 = .ok (.ireturn, 1) := by decide +kernel
theorem d_M_number_0 : decode k_M_number 0 = .ok (.aload_n 0, 1) := by decide +kernel
theorem d_M_number_1 : decode k_M_number 1 = .ok (.invokevirtual 106, 3) := by decide +kernel
theorem d_M_number_4 : decode k_M_number 4 = .ok (.aload_n 0, 1) := by decide +kernel
theorem d_M_number_5 : decode k_M_number 5 = .ok (.getfield 83, 3) := by decide +kernel
theorem d_M_number_8 : decode k_M_number 8 = .ok (.istore_n 1, 1) := by decide +kernel
theorem d_M_number_9 : decode k_M_number 9 = .ok (.aload_n 0, 1) := by decide +kernel
theorem d_M_number_10 : decode k_M_number 10 = .ok (.invokevirtual 95, 3) := by decide +kernel
theorem d_M_number_13 : decode k_M_number 13 = .ok (.invokestatic 80, 3) := by decide +kernel
theorem d_M_number_16 : decode k_M_number 16 = .ok (.ifCond .ne 27, 3) := by decide +kernel
theorem d_M_number_19 : decode k_M_number 19 = .ok (.aload_n 0, 1) := by decide +kernel
theorem d_M_number_20 : decode k_M_number 20 = .ok (.invokevirtual 95, 3) := by decide +kernel
theorem d_M_number_23 : decode k_M_number 23 = .ok (.invokestatic 77, 3) := by decide +kernel
theorem d_M_number_26 : decode k_M_number 26 = .ok (.ifCond .ne 17, 3) := by decide +kernel
theorem d_M_number_29 : decode k_M_number 29 = .ok (.aload_n 0, 1) := by decide +kernel
theorem d_M_number_30 : decode k_M_number 30 = .ok (.invokevirtual 95, 3) := by decide +kernel
theorem d_M_number_33 : decode k_M_number 33 = .ok (.bipush 46, 2) := by decide +kernel
theorem d_M_number_35 : decode k_M_number 35 = .ok (.if_icmp .eq 8, 3) := by decide +kernel
theorem d_M_number_38 : decode k_M_number 38 = .ok (.aload_n 0, 1) := by decide +kernel
theorem d_M_number_39 : decode k_M_number 39 = .ok (.invokevirtual 109, 3) := by decide +kernel
theorem d_M_number_42 : decode k_M_number 42 = .ok (.ireturn, 1) := by decide +kernel
theorem d_M_number_43 : decode k_M_number 43 = .ok (.aload_n 0, 1) := by decide +kernel
theorem d_M_number_44 : decode k_M_number 44 = .ok (.invokevirtual 95, 3) := by decide +kernel
theorem d_M_number_47 : decode k_M_number 47 = .ok (.bipush 45, 2) := by decide +kernel
theorem d_M_number_49 : decode k_M_number 49 = .ok (.if_icmp .ne 7, 3) := by decide +kernel
theorem d_M_number_52 : decode k_M_number 52 = .ok (.iconst 1, 1) := by decide +kernel
theorem d_M_number_53 : decode k_M_number 53 = .ok (.goto 4, 3) := by decide +kernel
theorem d_M_number_56 : decode k_M_number 56 = .ok (.iconst 0, 1) := by decide +kernel
theorem d_M_number_57 : decode k_M_number 57 = .ok (.istore_n 2, 1) := by decide +kernel
theorem d_M_number_58 : decode k_M_number 58 = .ok (.aload_n 0, 1) := by decide +kernel
theorem d_M_number_59 : decode k_M_number 59 = .ok (.invokevirtual 95, 3) := by decide +kernel
theorem d_M_number_62 : decode k_M_number 62 = .ok (.invokestatic 80, 3) := by decide +kernel
theorem d_M_number_65 : decode k_M_number 65 = .ok (.ifCond .eq 13, 3) := by decide +kernel
theorem d_M_number_68 : decode k_M_number 68 = .ok (.aload_n 0, 1) := by decide +kernel
theorem d_M_number_69 : decode k_M_number 69 = .ok (.dup, 1) := by decide +kernel
theorem d_M_number_70 : decode k_M_number 70 = .ok (.getfield 83, 3) := by decide +kernel
theorem d_M_number_73 : decode k_M_number 73 = .ok (.iconst 1, 1) := by decide +kernel
theorem d_M_number_74 : decode k_M_number 74 = .ok (.iadd, 1) := by decide +kernel
theorem d_M_number_75 : decode k_M_number 75 = .ok (.putfield 83, 3) := by decide +kernel
theorem d_M_number_78 : decode k_M_number 78 = .ok (.aload_n 0, 1) := by decide +kernel
theorem d_M_number_79 : decode k_M_number 79 = .ok (.getfield 83, 3) := by decide +kernel
theorem d_M_number_82 : decode k_M_number 82 = .ok (.istore_n 3, 1) := by decide +kernel
theorem d_M_number_83 : decode k_M_number 83 = .ok (.aload_n 0, 1) := by decide +kernel
theorem d_M_number_84 : decode k_M_number 84 = .ok (.invokevirtual 113, 3) := by decide +kernel
theorem d_M_number_87 : decode k_M_number 87 = .ok (.istore 4, 2) := by decide +kernel
theorem d_M_number_89 : decode k_M_number 89 = .ok (.iload 4, 2) := by decide +kernel
theorem d_M_number_91 : decode k_M_number 91 = .ok (.istore 5, 2) := by decide +kernel
theorem d_M_number_93 : decode k_M_number 93 = .ok (.aload_n 0, 1) := by decide +kernel
theorem d_M_number_94 : decode k_M_number 94 = .ok (.invokevirtual 95, 3) := by decide +kernel
theorem d_M_number_97 : decode k_M_number 97 = .ok (.bipush 46, 2) := by decide +kernel
theorem d_M_number_99 : decode k_M_number 99 = .ok (.if_icmp .ne 22, 3) := by decide +kernel
theorem d_M_number_102 : decode k_M_number 102 = .ok (.aload_n 0, 1) := by decide +kernel
theorem d_M_number_103 : decode k_M_number 103 = .ok (.dup, 1) := by decide +kernel
theorem d_M_number_104 : decode k_M_number 104 = .ok (.getfield 83, 3) := by decide +kernel
theorem d_M_number_107 : decode k_M_number 107 = .ok (.iconst 1, 1) := by decide +kernel
theorem d_M_number_108 : decode k_M_number 108 = .ok (.iadd, 1) := by decide +kernel
theorem d_M_number_109 : decode k_M_number 109 = .ok (.putfield 83, 3) := by decide +kernel
theorem d_M_number_112 : decode k_M_number 112 = .ok (.iload 5, 2) := by decide +kernel
theorem d_M_number_114 : decode k_M_number 114 = .ok (.aload_n 0, 1) := by decide +kernel
theorem d_M_number_115 : decode k_M_number 115 = .ok (.invokevirtual 113, 3) := by decide +kernel
theorem d_M_number_118 : decode k_M_number 118 = .ok (.iadd, 1) := by decide +kernel
theorem d_M_number_119 : decode k_M_number 119 = .ok (.istore 5, 2) := by decide +kernel
theorem d_M_number_121 : decode k_M_number 121 = .ok (.iload 5, 2) := by decide +kernel
theorem d_M_number_123 : decode k_M_number 123 = .ok (.ifCond .ne 10, 3) := by decide +kernel
theorem d_M_number_126 : decode k_M_number 126 = .ok (.aload_n 0, 1) := by decide +kernel
theorem d_M_number_127 : decode k_M_number 127 = .ok (.iconst 4, 1) := by decide +kernel
theorem d_M_number_128 : decode k_M_number 128 = .ok (.iload_n 1, 1) := by decide +kernel
theorem d_M_number_129 : decode k_M_number 129 = .ok (.invokevirtual 102, 3) := by decide +kernel
theorem d_M_number_132 : decode k_M_number 132 = .ok (.ireturn, 1) := by decide +kernel
theorem d_M_number_133 : decode k_M_number 133 = .ok (.aload_n 0, 1) := by decide +kernel
theorem d_M_number_134 : decode k_M_number 134 = .ok (.getfield 83, 3) := by decide +kernel
theorem d_M_number_137 : decode k_M_number 137 = .ok (.istore 6, 2) := by decide +kernel
theorem d_M_number_139 : decode k_M_number 139 = .ok (.lconst 0, 1) := by decide +kernel
theorem d_M_number_140 : decode k_M_number 140 = .ok (.lstore 7, 2) := by decide +kernel
theorem d_M_number_142 : decode k_M_number 142 = .ok (.aload_n 0, 1) := by decide +kernel
theorem d_M_number_143 : decode k_M_number 143 = .ok (.invokevirtual 95, 3) := by decide +kernel
theorem d_M_number_146 : decode k_M_number 146 = .ok (.bipush 69, 2) := by decide +kernel
theorem d_M_number_148 : decode k_M_number 148 = .ok (.if_icmp .eq 12, 3) := by decide +kernel
theorem d_M_number_151 : decode k_M_number 151 = .ok (.aload_n 0, 1) := by decide +kernel
theorem d_M_number_152 : decode k_M_number 152 = .ok (.invokevirtual 95, 3) := by decide +kernel
theorem d_M_number_155 : decode k_M_number 155 = .ok (.bipush 101, 2) := by decide +kernel
theorem d_M_number_157 : decode k_M_number 157 = .ok (.if_icmp .ne 138, 3) := by decide +kernel
theorem d_M_number_160 : decode k_M_number 160 = .ok (.aload_n 0, 1) := by decide +kernel
theorem d_M_number_161 : decode k_M_number 161 = .ok (.dup, 1) := by decide +kernel
theorem d_M_number_162 : decode k_M_number 162 = .ok (.getfield 83, 3) := by decide +kernel
theorem d_M_number_165 : decode k_M_number 165 = .ok (.iconst 1, 1) := by decide +kernel
theorem d_M_number_166 : decode k_M_number 166 = .ok (.iadd, 1) := by decide +kernel
theorem d_M_number_167 : decode k_M_number 167 = .ok (.putfield 83, 3) := by decide +kernel
theorem d_M_number_170 : decode k_M_number 170 = .ok (.aload_n 0, 1) := by decide +kernel
theorem d_M_number_171 : decode k_M_number 171 = .ok (.invokevirtual 95, 3) := by decide +kernel
theorem d_M_number_174 : decode k_M_number 174 = .ok (.bipush 45, 2) := by decide +kernel
theorem d_M_number_176 : decode k_M_number 176 = .ok (.if_icmp .ne 7, 3) := by decide +kernel
theorem d_M_number_179 : decode k_M_number 179 = .ok (.iconst 1, 1) := by decide +kernel
theorem d_M_number_180 : decode k_M_number 180 = .ok (.goto 4, 3) := by decide +kernel
theorem d_M_number_183 : decode k_M_number 183 = .ok (.iconst 0, 1) := by decide +kernel
theorem d_M_number_184 : decode k_M_number 184 = .ok (.istore 9, 2) := by decide +kernel
theorem d_M_number_186 : decode k_M_number 186 = .ok (.aload_n 0, 1) := by decide +kernel
theorem d_M_number_187 : decode k_M_number 187 = .ok (.invokevirtual 95, 3) := by decide +kernel
theorem d_M_number_190 : decode k_M_number 190 = .ok (.invokestatic 80, 3) := by decide +kernel
theorem d_M_number_193 : decode k_M_number 193 = .ok (.ifCond .eq 13, 3) := by decide +kernel
theorem d_M_number_196 : decode k_M_number 196 = .ok (.aload_n 0, 1) := by decide +kernel
theorem d_M_number_197 : decode k_M_number 197 = .ok (.dup, 1) := by decide +kernel
theorem d_M_number_198 : decode k_M_number 198 = .ok (.getfield 83, 3) := by decide +kernel
theorem d_M_number_201 : decode k_M_number 201 = .ok (.iconst 1, 1) := by decide +kernel
theorem d_M_number_202 : decode k_M_number 202 = .ok (.iadd, 1) := by decide +kernel
theorem d_M_number_203 : decode k_M_number 203 = .ok (.putfield 83, 3) := by decide +kernel
theorem d_M_number_206 : decode k_M_number 206 = .ok (.aload_n 0, 1) := by decide +kernel
theorem d_M_number_207 : decode k_M_number 207 = .ok (.getfield 83, 3) := by decide +kernel
theorem d_M_number_210 : decode k_M_number 210 = .ok (.istore 10, 2) := by decide +kernel
theorem d_M_number_212 : decode k_M_number 212 = .ok (.aload_n 0, 1) := by decide +kernel
theorem d_M_number_213 : decode k_M_number 213 = .ok (.invokevirtual 113, 3) := by decide +kernel
theorem d_M_number_216 : decode k_M_number 216 = .ok (.ifCond .ne 10, 3) := by decide +kernel
theorem d_M_number_219 : decode k_M_number 219 = .ok (.aload_n 0, 1) := by decide +kernel
theorem d_M_number_220 : decode k_M_number 220 = .ok (.iconst 4, 1) := by decide +kernel
theorem d_M_number_221 : decode k_M_number 221 = .ok (.iload_n 1, 1) := by decide +kernel
theorem d_M_number_222 : decode k_M_number 222 = .ok (.invokevirtual 102, 3) := by decide +kernel
theorem d_M_number_225 : decode k_M_number 225 = .ok (.ireturn, 1) := by decide +kernel
theorem d_M_number_226 : decode k_M_number 226 = .ok (.iload 10, 2) := by decide +kernel
theorem d_M_number_228 : decode k_M_number 228 = .ok (.istore 11, 2) := by decide +kernel
theorem d_M_number_230 : decode k_M_number 230 = .ok (.iload 11, 2) := by decide +kernel
theorem d_M_number_232 : decode k_M_number 232 = .ok (.aload_n 0, 1) := by decide +kernel
theorem d_M_number_233 : decode k_M_number 233 = .ok (.getfield 83, 3) := by decide +kernel
theorem d_M_number_236 : decode k_M_number 236 = .ok (.if_icmp .ge 44, 3) := by decide +kernel
theorem d_M_number_239 : decode k_M_number 239 = .ok (.lload 7, 2) := by decide +kernel
theorem d_M_number_241 : decode k_M_number 241 = .ok (.ldc2_w 116, 3) := by decide +kernel
theorem d_M_number_244 : decode k_M_number 244 = .ok (.lcmp, 1) := by decide +kernel
theorem d_M_number_245 : decode k_M_number 245 = .ok (.ifCond .le 8, 3) := by decide +kernel
theorem d_M_number_248 : decode k_M_number 248 = .ok (.lload 7, 2) := by decide +kernel
theorem d_M_number_250 : decode k_M_number 250 = .ok (.goto 22, 3) := by decide +kernel
theorem d_M_number_253 : decode k_M_number 253 = .ok (.ldc2_w 118, 3) := by decide +kernel
theorem d_M_number_256 : decode k_M_number 256 = .ok (.lload 7, 2) := by decide +kernel
theorem d_M_number_258 : decode k_M_number 258 = .ok (.lmul, 1) := by decide +kernel
theorem d_M_number_259 : decode k_M_number 259 = .ok (.aload_n 0, 1) := by decide +kernel
theorem d_M_number_260 : decode k_M_number 260 = .ok (.getfield 17, 3) := by decide +kernel
theorem d_M_number_263 : decode k_M_number 263 = .ok (.iload 11, 2) := by decide +kernel
theorem d_M_number_265 : decode k_M_number 265 = .ok (.iaload, 1) := by decide +kernel
theorem d_M_number_266 : decode k_M_number 266 = .ok (.i2l, 1) := by decide +kernel
theorem d_M_number_267 : decode k_M_number 267 = .ok (.ladd, 1) := by decide +kernel
theorem d_M_number_268 : decode k_M_number 268 = .ok (.ldc2_w 120, 3) := by decide +kernel
theorem d_M_number_271 : decode k_M_number 271 = .ok (.lsub, 1) := by decide +kernel
theorem d_M_number_272 : decode k_M_number 272 = .ok (.lstore 7, 2) := by decide +kernel
theorem d_M_number_274 : decode k_M_number 274 = .ok (.iinc 11 1, 3) := by decide +kernel
theorem d_M_number_277 : decode k_M_number 277 = .ok (.goto (-47), 3) := by decide +kernel
theorem d_M_number_280 : decode k_M_number 280 = .ok (.iload 9, 2) := by decide +kernel
theorem d_M_number_282 : decode k_M_number 282 = .ok (.ifCond .eq 9, 3) := by decide +kernel
theorem d_M_number_285 : decode k_M_number 285 = .ok (.lload 7, 2) := by decide +kernel
theorem d_M_number_287 : decode k_M_number 287 = .ok (.lneg, 1) := by decide +kernel
theorem d_M_number_288 : decode k_M_number 288 = .ok (.goto 5, 3) := by decide +kernel
theorem d_M_number_291 : decode k_M_number 291 = .ok (.lload 7, 2) := by decide +kernel
theorem d_M_number_293 : decode k_M_number 293 = .ok (.lstore 7, 2) := by decide +kernel
theorem d_M_number_295 : decode k_M_number 295 = .ok (.aload_n 0, 1) := by decide +kernel
theorem d_M_number_296 : decode k_M_number 296 = .ok (.invokevirtual 95, 3) := by decide +kernel
theorem d_M_number_299 : decode k_M_number 299 = .ok (.invokestatic 73, 3) := by decide +kernel
theorem d_M_number_302 : decode k_M_number 302 = .ok (.ifCond .ne 32, 3) := by decide +kernel
theorem d_M_number_305 : decode k_M_number 305 = .ok (.aload_n 0, 1) := by decide +kernel
theorem d_M_number_306 : decode k_M_number 306 = .ok (.invokevirtual 95, 3) := by decide +kernel
theorem d_M_number_309 : decode k_M_number 309 = .ok (.invokestatic 77, 3) := by decide +kernel
theorem d_M_number_312 : decode k_M_number 312 = .ok (.ifCond .ne 22, 3) := by decide +kernel
theorem d_M_number_315 : decode k_M_number 315 = .ok (.aload_n 0, 1) := by decide +kernel
theorem d_M_number_316 : decode k_M_number 316 = .ok (.invokevirtual 95, 3) := by decide +kernel
theorem d_M_number_319 : decode k_M_number 319 = .ok (.invokestatic 80, 3) := by decide +kernel
theorem d_M_number_322 : decode k_M_number 322 = .ok (.ifCond .ne 12, 3) := by decide +kernel
theorem d_M_number_325 : decode k_M_number 325 = .ok (.aload_n 0, 1) := by decide +kernel
theorem d_M_number_326 : decode k_M_number 326 = .ok (.invokevirtual 95, 3) := by decide +kernel
theorem d_M_number_329 : decode k_M_number 329 = .ok (.bipush 46, 2) := by decide +kernel
theorem d_M_number_331 : decode k_M_number 331 = .ok (.if_icmp .ne 10, 3) := by decide +kernel
theorem d_M_number_334 : decode k_M_number 334 = .ok (.aload_n 0, 1) := by decide +kernel
theorem d_M_number_335 : decode k_M_number 335 = .ok (.iconst 4, 1) := by decide +kernel
theorem d_M_number_336 : decode k_M_number 336 = .ok (.iload_n 1, 1) := by decide +kernel
theorem d_M_number_337 : decode k_M_number 337 = .ok (.invokevirtual 102, 3) := by decide +kernel
theorem d_M_number_340 : decode k_M_number 340 = .ok (.ireturn, 1) := by decide +kernel
theorem d_M_number_341 : decode k_M_number 341 = .ok (.aload_n 0, 1) := by decide +kernel
theorem d_M_number_342 : decode k_M_number 342 = .ok (.iload_n 3, 1) := by decide +kernel
theorem d_M_number_343 : decode k_M_number 343 = .ok (.iload 6, 2) := by decide +kernel
theorem d_M_number_345 : decode k_M_number 345 = .ok (.iload 4, 2) := by decide +kernel
theorem d_M_number_347 : decode k_M_number 347 = .ok (.i2l, 1) := by decide +kernel
theorem d_M_number_348 : decode k_M_number 348 = .ok (.lload 7, 2) := by decide +kernel
theorem d_M_number_350 : decode k_M_number 350 = .ok (.ladd, 1) := by decide +kernel
theorem d_M_number_351 : decode k_M_number 351 = .ok (.aload_n 0, 1) := by decide +kernel
theorem d_M_number_352 : decode k_M_number 352 = .ok (.getfield 49, 3) := by decide +kernel
theorem d_M_number_355 : decode k_M_number 355 = .ok (.i2l, 1) := by decide +kernel
theorem d_M_number_356 : decode k_M_number 356 = .ok (.ladd, 1) := by decide +kernel
theorem d_M_number_357 : decode k_M_number 357 = .ok (.invokevirtual 122, 3) := by decide +kernel
theorem d_M_number_360 : decode k_M_number 360 = .ok (.lstore 9, 2) := by decide +kernel
theorem d_M_number_362 : decode k_M_number 362 = .ok (.lload 9, 2) := by decide +kernel
theorem d_M_number_364 : decode k_M_number 364 = .ok (.ldc2_w 126, 3) := by decide +kernel
theorem d_M_number_367 : decode k_M_number 367 = .ok (.lcmp, 1) := by decide +kernel
theorem d_M_number_368 : decode k_M_number 368 = .ok (.ifCond .le 10, 3) := by decide +kernel
theorem d_M_number_371 : decode k_M_number 371 = .ok (.aload_n 0, 1) := by decide +kernel
theorem d_M_number_372 : decode k_M_number 372 = .ok (.iconst 5, 1) := by decide +kernel
theorem d_M_number_373 : decode k_M_number 373 = .ok (.iload_n 1, 1) := by decide +kernel
theorem d_M_number_374 : decode k_M_number 374 = .ok (.invokevirtual 102, 3) := by decide +kernel
theorem d_M_number_377 : decode k_M_number 377 = .ok (.ireturn, 1) := by decide +kernel
theorem d_M_number_378 : decode k_M_number 378 = .ok (.aload_n 0, 1) := by decide +kernel
theorem d_M_number_379 : decode k_M_number 379 = .ok (.iload_n 2, 1) := by decide +kernel
theorem d_M_number_380 : decode k_M_number 380 = .ok (.ifCond .eq 10, 3) := by decide +kernel
theorem d_M_number_383 : decode k_M_number 383 = .ok (.lload 9, 2) := by decide +kernel
theorem d_M_number_385 : decode k_M_number 385 = .ok (.lneg, 1) := by decide +kernel
theorem d_M_number_386 : decode k_M_number 386 = .ok (.l2i, 1) := by decide +kernel
theorem d_M_number_387 : decode k_M_number 387 = .ok (.goto 6, 3) := by decide +kernel
theorem d_M_number_390 : decode k_M_number 390 = .ok (.lload 9, 2) := by decide +kernel
theorem d_M_number_392 : decode k_M_number 392 = .ok (.l2i, 1) := by decide +kernel
theorem d_M_number_393 : decode k_M_number 393 = .ok (.putfield 128, 3) := by decide +kernel
theorem d_M_number_396 : decode k_M_number 396 = .ok (.iconst 1, 1) := by decide +kernel
theorem d_M_number_397 : decode k_M_number 397 = .ok (.ireturn, 1) := by decide +kernel
theorem d_M_rounded_0 : decode k_M_rounded 0 = .ok (.lconst 0, 1) := by decide +kernel
theorem d_M_rounded_1 : decode k_M_rounded 1 = .ok (.lstore 5, 2) := by decide +kernel
theorem d_M_rounded_3 : decode k_M_rounded 3 = .ok (.iconst 0, 1) := by decide +kernel
theorem d_M_rounded_4 : decode k_M_rounded 4 = .ok (.istore 7, 2) := by decide +kernel
theorem d_M_rounded_6 : decode k_M_rounded 6 = .ok (.iconst 0, 1) := by decide +kernel
theorem d_M_rounded_7 : decode k_M_rounded 7 = .ok (.istore 8, 2) := by decide +kernel
theorem d_M_rounded_9 : decode k_M_rounded 9 = .ok (.lconst 0, 1) := by decide +kernel
theorem d_M_rounded_10 : decode k_M_rounded 10 = .ok (.lstore 9, 2) := by decide +kernel
theorem d_M_rounded_12 : decode k_M_rounded 12 = .ok (.iload_n 1, 1) := by decide +kernel
theorem d_M_rounded_13 : decode k_M_rounded 13 = .ok (.istore 11, 2) := by decide +kernel
theorem d_M_rounded_15 : decode k_M_rounded 15 = .ok (.iload 11, 2) := by decide +kernel
theorem d_M_rounded_17 : decode k_M_rounded 17 = .ok (.iload_n 2, 1) := by decide +kernel
theorem d_M_rounded_18 : decode k_M_rounded 18 = .ok (.if_icmp .ge 106, 3) := by decide +kernel
theorem d_M_rounded_21 : decode k_M_rounded 21 = .ok (.aload_n 0, 1) := by decide +kernel
theorem d_M_rounded_22 : decode k_M_rounded 22 = .ok (.getfield 17, 3) := by decide +kernel
theorem d_M_rounded_25 : decode k_M_rounded 25 = .ok (.iload 11, 2) := by decide +kernel
theorem d_M_rounded_27 : decode k_M_rounded 27 = .ok (.iaload, 1) := by decide +kernel
theorem d_M_rounded_28 : decode k_M_rounded 28 = .ok (.bipush 46, 2) := by decide +kernel
theorem d_M_rounded_30 : decode k_M_rounded 30 = .ok (.if_icmp .eq 88, 3) := by decide +kernel
theorem d_M_rounded_33 : decode k_M_rounded 33 = .ok (.aload_n 0, 1) := by decide +kernel
theorem d_M_rounded_34 : decode k_M_rounded 34 = .ok (.getfield 17, 3) := by decide +kernel
theorem d_M_rounded_37 : decode k_M_rounded 37 = .ok (.iload 11, 2) := by decide +kernel
theorem d_M_rounded_39 : decode k_M_rounded 39 = .ok (.iaload, 1) := by decide +kernel
theorem d_M_rounded_40 : decode k_M_rounded 40 = .ok (.bipush 48, 2) := by decide +kernel
theorem d_M_rounded_42 : decode k_M_rounded 42 = .ok (.isub, 1) := by decide +kernel
theorem d_M_rounded_43 : decode k_M_rounded 43 = .ok (.istore 12, 2) := by decide +kernel
theorem d_M_rounded_45 : decode k_M_rounded 45 = .ok (.lload 9, 2) := by decide +kernel
theorem d_M_rounded_47 : decode k_M_rounded 47 = .ok (.lload_n 3, 1) := by decide +kernel
theorem d_M_rounded_48 : decode k_M_rounded 48 = .ok (.lcmp, 1) := by decide +kernel
theorem d_M_rounded_49 : decode k_M_rounded 49 = .ok (.ifCond .ge 32, 3) := by decide +kernel
theorem d_M_rounded_52 : decode k_M_rounded 52 = .ok (.lload 5, 2) := by decide +kernel
theorem d_M_rounded_54 : decode k_M_rounded 54 = .ok (.ldc2_w 131, 3) := by decide +kernel
theorem d_M_rounded_57 : decode k_M_rounded 57 = .ok (.lcmp, 1) := by decide +kernel
theorem d_M_rounded_58 : decode k_M_rounded 58 = .ok (.ifCond .le 8, 3) := by decide +kernel
theorem d_M_rounded_61 : decode k_M_rounded 61 = .ok (.lload 5, 2) := by decide +kernel
theorem d_M_rounded_63 : decode k_M_rounded 63 = .ok (.goto 13, 3) := by decide +kernel
theorem d_M_rounded_66 : decode k_M_rounded 66 = .ok (.ldc2_w 118, 3) := by decide +kernel
theorem d_M_rounded_69 : decode k_M_rounded 69 = .ok (.lload 5, 2) := by decide +kernel
theorem d_M_rounded_71 : decode k_M_rounded 71 = .ok (.lmul, 1) := by decide +kernel
theorem d_M_rounded_72 : decode k_M_rounded 72 = .ok (.iload 12, 2) := by decide +kernel
theorem d_M_rounded_74 : decode k_M_rounded 74 = .ok (.i2l, 1) := by decide +kernel
theorem d_M_rounded_75 : decode k_M_rounded 75 = .ok (.ladd, 1) := by decide +kernel
theorem d_M_rounded_76 : decode k_M_rounded 76 = .ok (.lstore 5, 2) := by decide +kernel
theorem d_M_rounded_78 : decode k_M_rounded 78 = .ok (.goto 34, 3) := by decide +kernel
theorem d_M_rounded_81 : decode k_M_rounded 81 = .ok (.lload 9, 2) := by decide +kernel
theorem d_M_rounded_83 : decode k_M_rounded 83 = .ok (.lload_n 3, 1) := by decide +kernel
theorem d_M_rounded_84 : decode k_M_rounded 84 = .ok (.lcmp, 1) := by decide +kernel
theorem d_M_rounded_85 : decode k_M_rounded 85 = .ok (.ifCond .ne 10, 3) := by decide +kernel
theorem d_M_rounded_88 : decode k_M_rounded 88 = .ok (.iload 12, 2) := by decide +kernel
theorem d_M_rounded_90 : decode k_M_rounded 90 = .ok (.istore 7, 2) := by decide +kernel
theorem d_M_rounded_92 : decode k_M_rounded 92 = .ok (.goto 20, 3) := by decide +kernel
theorem d_M_rounded_95 : decode k_M_rounded 95 = .ok (.iload 8, 2) := by decide +kernel
theorem d_M_rounded_97 : decode k_M_rounded 97 = .ok (.ifCond .ne 8, 3) := by decide +kernel
theorem d_M_rounded_100 : decode k_M_rounded 100 = .ok (.iload 12, 2) := by decide +kernel
theorem d_M_rounded_102 : decode k_M_rounded 102 = .ok (.ifCond .le 7, 3) := by decide +kernel
theorem d_M_rounded_105 : decode k_M_rounded 105 = .ok (.iconst 1, 1) := by decide +kernel
theorem d_M_rounded_106 : decode k_M_rounded 106 = .ok (.goto 4, 3) := by decide +kernel
theorem d_M_rounded_109 : decode k_M_rounded 109 = .ok (.iconst 0, 1) := by decide +kernel
theorem d_M_rounded_110 : decode k_M_rounded 110 = .ok (.istore 8, 2) := by decide +kernel
theorem d_M_rounded_112 : decode k_M_rounded 112 = .ok (.lload 9, 2) := by decide +kernel
theorem d_M_rounded_114 : decode k_M_rounded 114 = .ok (.lconst 1, 1) := by decide +kernel
theorem d_M_rounded_115 : decode k_M_rounded 115 = .ok (.ladd, 1) := by decide +kernel
theorem d_M_rounded_116 : decode k_M_rounded 116 = .ok (.lstore 9, 2) := by decide +kernel
theorem d_M_rounded_118 : decode k_M_rounded 118 = .ok (.iinc 11 1, 3) := by decide +kernel
theorem d_M_rounded_121 : decode k_M_rounded 121 = .ok (.goto (-106), 3) := by decide +kernel
theorem d_M_rounded_124 : decode k_M_rounded 124 = .ok (.lload 9, 2) := by decide +kernel
theorem d_M_rounded_126 : decode k_M_rounded 126 = .ok (.lload_n 3, 1) := by decide +kernel
theorem d_M_rounded_127 : decode k_M_rounded 127 = .ok (.lcmp, 1) := by decide +kernel
theorem d_M_rounded_128 : decode k_M_rounded 128 = .ok (.ifCond .ge 36, 3) := by decide +kernel
theorem d_M_rounded_131 : decode k_M_rounded 131 = .ok (.lload 5, 2) := by decide +kernel
theorem d_M_rounded_133 : decode k_M_rounded 133 = .ok (.lconst 0, 1) := by decide +kernel
theorem d_M_rounded_134 : decode k_M_rounded 134 = .ok (.lcmp, 1) := by decide +kernel
theorem d_M_rounded_135 : decode k_M_rounded 135 = .ok (.ifCond .le 29, 3) := by decide +kernel
theorem d_M_rounded_138 : decode k_M_rounded 138 = .ok (.lload 5, 2) := by decide +kernel
theorem d_M_rounded_140 : decode k_M_rounded 140 = .ok (.ldc2_w 131, 3) := by decide +kernel
theorem d_M_rounded_143 : decode k_M_rounded 143 = .ok (.lcmp, 1) := by decide +kernel
theorem d_M_rounded_144 : decode k_M_rounded 144 = .ok (.ifCond .gt 20, 3) := by decide +kernel
theorem d_M_rounded_147 : decode k_M_rounded 147 = .ok (.ldc2_w 118, 3) := by decide +kernel
theorem d_M_rounded_150 : decode k_M_rounded 150 = .ok (.lload 5, 2) := by decide +kernel
theorem d_M_rounded_152 : decode k_M_rounded 152 = .ok (.lmul, 1) := by decide +kernel
theorem d_M_rounded_153 : decode k_M_rounded 153 = .ok (.lstore 5, 2) := by decide +kernel
theorem d_M_rounded_155 : decode k_M_rounded 155 = .ok (.lload 9, 2) := by decide +kernel
theorem d_M_rounded_157 : decode k_M_rounded 157 = .ok (.lconst 1, 1) := by decide +kernel
theorem d_M_rounded_158 : decode k_M_rounded 158 = .ok (.ladd, 1) := by decide +kernel
theorem d_M_rounded_159 : decode k_M_rounded 159 = .ok (.lstore 9, 2) := by decide +kernel
theorem d_M_rounded_161 : decode k_M_rounded 161 = .ok (.goto (-37), 3) := by decide +kernel
theorem d_M_rounded_164 : decode k_M_rounded 164 = .ok (.lload_n 3, 1) := by decide +kernel
theorem d_M_rounded_165 : decode k_M_rounded 165 = .ok (.lconst 0, 1) := by decide +kernel
theorem d_M_rounded_166 : decode k_M_rounded 166 = .ok (.lcmp, 1) := by decide +kernel
theorem d_M_rounded_167 : decode k_M_rounded 167 = .ok (.ifCond .ge 5, 3) := by decide +kernel
theorem d_M_rounded_170 : decode k_M_rounded 170 = .ok (.lconst 0, 1) := by decide +kernel
theorem d_M_rounded_171 : decode k_M_rounded 171 = .ok (.lreturn, 1) := by decide +kernel
theorem d_M_rounded_172 : decode k_M_rounded 172 = .ok (.iload 7, 2) := by decide +kernel
theorem d_M_rounded_174 : decode k_M_rounded 174 = .ok (.iconst 5, 1) := by decide +kernel
theorem d_M_rounded_175 : decode k_M_rounded 175 = .ok (.if_icmp .gt 25, 3) := by decide +kernel
theorem d_M_rounded_178 : decode k_M_rounded 178 = .ok (.iload 7, 2) := by decide +kernel
theorem d_M_rounded_180 : decode k_M_rounded 180 = .ok (.iconst 5, 1) := by decide +kernel
theorem d_M_rounded_181 : decode k_M_rounded 181 = .ok (.if_icmp .ne 26, 3) := by decide +kernel
theorem d_M_rounded_184 : decode k_M_rounded 184 = .ok (.iload 8, 2) := by decide +kernel
theorem d_M_rounded_186 : decode k_M_rounded 186 = .ok (.ifCond .ne 14, 3) := by decide +kernel
theorem d_M_rounded_189 : decode k_M_rounded 189 = .ok (.lload 5, 2) := by decide +kernel
theorem d_M_rounded_191 : decode k_M_rounded 191 = .ok (.ldc2_w 133, 3) := by decide +kernel
theorem d_M_rounded_194 : decode k_M_rounded 194 = .ok (.lrem, 1) := by decide +kernel
theorem d_M_rounded_195 : decode k_M_rounded 195 = .ok (.lconst 1, 1) := by decide +kernel
theorem d_M_rounded_196 : decode k_M_rounded 196 = .ok (.lcmp, 1) := by decide +kernel
theorem d_M_rounded_197 : decode k_M_rounded 197 = .ok (.ifCond .ne 10, 3) := by decide +kernel
theorem d_M_rounded_200 : decode k_M_rounded 200 = .ok (.lload 5, 2) := by decide +kernel
theorem d_M_rounded_202 : decode k_M_rounded 202 = .ok (.lconst 1, 1) := by decide +kernel
theorem d_M_rounded_203 : decode k_M_rounded 203 = .ok (.ladd, 1) := by decide +kernel
theorem d_M_rounded_204 : decode k_M_rounded 204 = .ok (.goto 5, 3) := by decide +kernel
theorem d_M_rounded_207 : decode k_M_rounded 207 = .ok (.lload 5, 2) := by decide +kernel
theorem d_M_rounded_209 : decode k_M_rounded 209 = .ok (.lreturn, 1) := by decide +kernel
theorem d_M_room_0 : decode k_M_room 0 = .ok (.aload_n 0, 1) := by decide +kernel
theorem d_M_room_1 : decode k_M_room 1 = .ok (.getfield 23, 3) := by decide +kernel
theorem d_M_room_4 : decode k_M_room 4 = .ok (.aload_n 0, 1) := by decide +kernel
theorem d_M_room_5 : decode k_M_room 5 = .ok (.getfield 135, 3) := by decide +kernel
theorem d_M_room_8 : decode k_M_room 8 = .ok (.iaload, 1) := by decide +kernel
theorem d_M_room_9 : decode k_M_room 9 = .ok (.iload_n 1, 1) := by decide +kernel
theorem d_M_room_10 : decode k_M_room 10 = .ok (.iadd, 1) := by decide +kernel
theorem d_M_room_11 : decode k_M_room 11 = .ok (.aload_n 0, 1) := by decide +kernel
theorem d_M_room_12 : decode k_M_room 12 = .ok (.getfield 56, 3) := by decide +kernel
theorem d_M_room_15 : decode k_M_room 15 = .ok (.if_icmp .gt 25, 3) := by decide +kernel
theorem d_M_room_18 : decode k_M_room 18 = .ok (.aload_n 0, 1) := by decide +kernel
theorem d_M_room_19 : decode k_M_room 19 = .ok (.getfield 30, 3) := by decide +kernel
theorem d_M_room_22 : decode k_M_room 22 = .ok (.aload_n 0, 1) := by decide +kernel
theorem d_M_room_23 : decode k_M_room 23 = .ok (.getfield 135, 3) := by decide +kernel
theorem d_M_room_26 : decode k_M_room 26 = .ok (.iaload, 1) := by decide +kernel
theorem d_M_room_27 : decode k_M_room 27 = .ok (.iload_n 2, 1) := by decide +kernel
theorem d_M_room_28 : decode k_M_room 28 = .ok (.iadd, 1) := by decide +kernel
theorem d_M_room_29 : decode k_M_room 29 = .ok (.aload_n 0, 1) := by decide +kernel
theorem d_M_room_30 : decode k_M_room 30 = .ok (.getfield 53, 3) := by decide +kernel
theorem d_M_room_33 : decode k_M_room 33 = .ok (.if_icmp .gt 7, 3) := by decide +kernel
theorem d_M_room_36 : decode k_M_room 36 = .ok (.iconst 1, 1) := by decide +kernel
theorem d_M_room_37 : decode k_M_room 37 = .ok (.goto 4, 3) := by decide +kernel
theorem d_M_room_40 : decode k_M_room 40 = .ok (.iconst 0, 1) := by decide +kernel
theorem d_M_room_41 : decode k_M_room 41 = .ok (.ireturn, 1) := by decide +kernel
theorem d_M_say_0 : decode k_M_say 0 = .ok (.aload_n 0, 1) := by decide +kernel
theorem d_M_say_1 : decode k_M_say 1 = .ok (.getfield 20, 3) := by decide +kernel
theorem d_M_say_4 : decode k_M_say 4 = .ok (.sipush 4096, 3) := by decide +kernel
theorem d_M_say_7 : decode k_M_say 7 = .ok (.aload_n 0, 1) := by decide +kernel
theorem d_M_say_8 : decode k_M_say 8 = .ok (.getfield 135, 3) := by decide +kernel
theorem d_M_say_11 : decode k_M_say 11 = .ok (.imul, 1) := by decide +kernel
theorem d_M_say_12 : decode k_M_say 12 = .ok (.aload_n 0, 1) := by decide +kernel
theorem d_M_say_13 : decode k_M_say 13 = .ok (.getfield 23, 3) := by decide +kernel
theorem d_M_say_16 : decode k_M_say 16 = .ok (.aload_n 0, 1) := by decide +kernel
theorem d_M_say_17 : decode k_M_say 17 = .ok (.getfield 135, 3) := by decide +kernel
theorem d_M_say_20 : decode k_M_say 20 = .ok (.iaload, 1) := by decide +kernel
theorem d_M_say_21 : decode k_M_say 21 = .ok (.iadd, 1) := by decide +kernel
theorem d_M_say_22 : decode k_M_say 22 = .ok (.iload_n 1, 1) := by decide +kernel
theorem d_M_say_23 : decode k_M_say 23 = .ok (.iastore, 1) := by decide +kernel
theorem d_M_say_24 : decode k_M_say 24 = .ok (.aload_n 0, 1) := by decide +kernel
theorem d_M_say_25 : decode k_M_say 25 = .ok (.getfield 23, 3) := by decide +kernel
theorem d_M_say_28 : decode k_M_say 28 = .ok (.aload_n 0, 1) := by decide +kernel
theorem d_M_say_29 : decode k_M_say 29 = .ok (.getfield 135, 3) := by decide +kernel
theorem d_M_say_32 : decode k_M_say 32 = .ok (.dup2, 1) := by decide +kernel
theorem d_M_say_33 : decode k_M_say 33 = .ok (.iaload, 1) := by decide +kernel
theorem d_M_say_34 : decode k_M_say 34 = .ok (.iconst 1, 1) := by decide +kernel
theorem d_M_say_35 : decode k_M_say 35 = .ok (.iadd, 1) := by decide +kernel
theorem d_M_say_36 : decode k_M_say 36 = .ok (.iastore, 1) := by decide +kernel
theorem d_M_say_37 : decode k_M_say 37 = .ok (.return_, 1) := by decide +kernel
theorem d_M_open_0 : decode k_M_open 0 = .ok (.aload_n 0, 1) := by decide +kernel
theorem d_M_open_1 : decode k_M_open 1 = .ok (.iload_n 1, 1) := by decide +kernel
theorem d_M_open_2 : decode k_M_open 2 = .ok (.invokevirtual 138, 3) := by decide +kernel
theorem d_M_open_5 : decode k_M_open 5 = .ok (.aload_n 0, 1) := by decide +kernel
theorem d_M_open_6 : decode k_M_open 6 = .ok (.iconst 0, 1) := by decide +kernel
theorem d_M_open_7 : decode k_M_open 7 = .ok (.invokevirtual 138, 3) := by decide +kernel
theorem d_M_open_10 : decode k_M_open 10 = .ok (.aload_n 0, 1) := by decide +kernel
theorem d_M_open_11 : decode k_M_open 11 = .ok (.getfield 23, 3) := by decide +kernel
theorem d_M_open_14 : decode k_M_open 14 = .ok (.aload_n 0, 1) := by decide +kernel
theorem d_M_open_15 : decode k_M_open 15 = .ok (.getfield 135, 3) := by decide +kernel
theorem d_M_open_18 : decode k_M_open 18 = .ok (.iaload, 1) := by decide +kernel
theorem d_M_open_19 : decode k_M_open 19 = .ok (.iconst 1, 1) := by decide +kernel
theorem d_M_open_20 : decode k_M_open 20 = .ok (.isub, 1) := by decide +kernel
theorem d_M_open_21 : decode k_M_open 21 = .ok (.ireturn, 1) := by decide +kernel
theorem d_M_close_0 : decode k_M_close 0 = .ok (.aload_n 0, 1) := by decide +kernel
theorem d_M_close_1 : decode k_M_close 1 = .ok (.getfield 20, 3) := by decide +kernel
theorem d_M_close_4 : decode k_M_close 4 = .ok (.sipush 4096, 3) := by decide +kernel
theorem d_M_close_7 : decode k_M_close 7 = .ok (.aload_n 0, 1) := by decide +kernel
theorem d_M_close_8 : decode k_M_close 8 = .ok (.getfield 135, 3) := by decide +kernel
theorem d_M_close_11 : decode k_M_close 11 = .ok (.imul, 1) := by decide +kernel
theorem d_M_close_12 : decode k_M_close 12 = .ok (.iload_n 1, 1) := by decide +kernel
theorem d_M_close_13 : decode k_M_close 13 = .ok (.iadd, 1) := by decide +kernel
theorem d_M_close_14 : decode k_M_close 14 = .ok (.iload_n 2, 1) := by decide +kernel
theorem d_M_close_15 : decode k_M_close 15 = .ok (.iastore, 1) := by decide +kernel
theorem d_M_close_16 : decode k_M_close 16 = .ok (.return_, 1) := by decide +kernel
theorem d_M_coordinate_0 : decode k_M_coordinate 0 = .ok (.aload_n 0, 1) := by decide +kernel
theorem d_M_coordinate_1 : decode k_M_coordinate 1 = .ok (.invokevirtual 106, 3) := by decide +kernel
theorem d_M_coordinate_4 : decode k_M_coordinate 4 = .ok (.aload_n 0, 1) := by decide +kernel
theorem d_M_coordinate_5 : decode k_M_coordinate 5 = .ok (.iconst 0, 1) := by decide +kernel
theorem d_M_coordinate_6 : decode k_M_coordinate 6 = .ok (.iconst 1, 1) := by decide +kernel
theorem d_M_coordinate_7 : decode k_M_coordinate 7 = .ok (.invokevirtual 142, 3) := by decide +kernel
theorem d_M_coordinate_10 : decode k_M_coordinate 10 = .ok (.ifCond .ne 14, 3) := by decide +kernel
theorem d_M_coordinate_13 : decode k_M_coordinate 13 = .ok (.aload_n 0, 1) := by decide +kernel
theorem d_M_coordinate_14 : decode k_M_coordinate 14 = .ok (.bipush 7, 2) := by decide +kernel
theorem d_M_coordinate_16 : decode k_M_coordinate 16 = .ok (.aload_n 0, 1) := by decide +kernel
theorem d_M_coordinate_17 : decode k_M_coordinate 17 = .ok (.getfield 83, 3) := by decide +kernel
theorem d_M_coordinate_20 : decode k_M_coordinate 20 = .ok (.invokevirtual 102, 3) := by decide +kernel
theorem d_M_coordinate_23 : decode k_M_coordinate 23 = .ok (.ireturn, 1) := by decide +kernel
theorem d_M_coordinate_24 : decode k_M_coordinate 24 = .ok (.aload_n 0, 1) := by decide +kernel
theorem d_M_coordinate_25 : decode k_M_coordinate 25 = .ok (.invokevirtual 145, 3) := by decide +kernel
theorem d_M_coordinate_28 : decode k_M_coordinate 28 = .ok (.ifCond .ne 5, 3) := by decide +kernel
theorem d_M_coordinate_31 : decode k_M_coordinate 31 = .ok (.iconst 0, 1) := by decide +kernel
theorem d_M_coordinate_32 : decode k_M_coordinate 32 = .ok (.ireturn, 1) := by decide +kernel
theorem d_M_coordinate_33 : decode k_M_coordinate 33 = .ok (.aload_n 0, 1) := by decide +kernel
theorem d_M_coordinate_34 : decode k_M_coordinate 34 = .ok (.getfield 128, 3) := by decide +kernel
theorem d_M_coordinate_37 : decode k_M_coordinate 37 = .ok (.istore_n 1, 1) := by decide +kernel
theorem d_M_coordinate_38 : decode k_M_coordinate 38 = .ok (.aload_n 0, 1) := by decide +kernel
theorem d_M_coordinate_39 : decode k_M_coordinate 39 = .ok (.invokevirtual 145, 3) := by decide +kernel
theorem d_M_coordinate_42 : decode k_M_coordinate 42 = .ok (.ifCond .ne 5, 3) := by decide +kernel
theorem d_M_coordinate_45 : decode k_M_coordinate 45 = .ok (.iconst 0, 1) := by decide +kernel
theorem d_M_coordinate_46 : decode k_M_coordinate 46 = .ok (.ireturn, 1) := by decide +kernel
theorem d_M_coordinate_47 : decode k_M_coordinate 47 = .ok (.iconst 2, 1) := by decide +kernel
theorem d_M_coordinate_48 : decode k_M_coordinate 48 = .ok (.sipush 4096, 3) := by decide +kernel
theorem d_M_coordinate_51 : decode k_M_coordinate 51 = .ok (.aload_n 0, 1) := by decide +kernel
theorem d_M_coordinate_52 : decode k_M_coordinate 52 = .ok (.getfield 135, 3) := by decide +kernel
theorem d_M_coordinate_55 : decode k_M_coordinate 55 = .ok (.imul, 1) := by decide +kernel
theorem d_M_coordinate_56 : decode k_M_coordinate 56 = .ok (.aload_n 0, 1) := by decide +kernel
theorem d_M_coordinate_57 : decode k_M_coordinate 57 = .ok (.getfield 30, 3) := by decide +kernel
theorem d_M_coordinate_60 : decode k_M_coordinate 60 = .ok (.aload_n 0, 1) := by decide +kernel
theorem d_M_coordinate_61 : decode k_M_coordinate 61 = .ok (.getfield 135, 3) := by decide +kernel
theorem d_M_coordinate_64 : decode k_M_coordinate 64 = .ok (.iaload, 1) := by decide +kernel
theorem d_M_coordinate_65 : decode k_M_coordinate 65 = .ok (.iadd, 1) := by decide +kernel
theorem d_M_coordinate_66 : decode k_M_coordinate 66 = .ok (.imul, 1) := by decide +kernel
theorem d_M_coordinate_67 : decode k_M_coordinate 67 = .ok (.istore_n 2, 1) := by decide +kernel
theorem d_M_coordinate_68 : decode k_M_coordinate 68 = .ok (.aload_n 0, 1) := by decide +kernel
theorem d_M_coordinate_69 : decode k_M_coordinate 69 = .ok (.getfield 27, 3) := by decide +kernel
theorem d_M_coordinate_72 : decode k_M_coordinate 72 = .ok (.iload_n 2, 1) := by decide +kernel
theorem d_M_coordinate_73 : decode k_M_coordinate 73 = .ok (.iload_n 1, 1) := by decide +kernel
theorem d_M_coordinate_74 : decode k_M_coordinate 74 = .ok (.iastore, 1) := by decide +kernel
theorem d_M_coordinate_75 : decode k_M_coordinate 75 = .ok (.aload_n 0, 1) := by decide +kernel
theorem d_M_coordinate_76 : decode k_M_coordinate 76 = .ok (.getfield 27, 3) := by decide +kernel
theorem d_M_coordinate_79 : decode k_M_coordinate 79 = .ok (.iload_n 2, 1) := by decide +kernel
theorem d_M_coordinate_80 : decode k_M_coordinate 80 = .ok (.iconst 1, 1) := by decide +kernel
theorem d_M_coordinate_81 : decode k_M_coordinate 81 = .ok (.iadd, 1) := by decide +kernel
theorem d_M_coordinate_82 : decode k_M_coordinate 82 = .ok (.aload_n 0, 1) := by decide +kernel
theorem d_M_coordinate_83 : decode k_M_coordinate 83 = .ok (.getfield 128, 3) := by decide +kernel
theorem d_M_coordinate_86 : decode k_M_coordinate 86 = .ok (.iastore, 1) := by decide +kernel
theorem d_M_coordinate_87 : decode k_M_coordinate 87 = .ok (.aload_n 0, 1) := by decide +kernel
theorem d_M_coordinate_88 : decode k_M_coordinate 88 = .ok (.getfield 30, 3) := by decide +kernel
theorem d_M_coordinate_91 : decode k_M_coordinate 91 = .ok (.aload_n 0, 1) := by decide +kernel
theorem d_M_coordinate_92 : decode k_M_coordinate 92 = .ok (.getfield 135, 3) := by decide +kernel
theorem d_M_coordinate_95 : decode k_M_coordinate 95 = .ok (.dup2, 1) := by decide +kernel
theorem d_M_coordinate_96 : decode k_M_coordinate 96 = .ok (.iaload, 1) := by decide +kernel
theorem d_M_coordinate_97 : decode k_M_coordinate 97 = .ok (.iconst 1, 1) := by decide +kernel
theorem d_M_coordinate_98 : decode k_M_coordinate 98 = .ok (.iadd, 1) := by decide +kernel
theorem d_M_coordinate_99 : decode k_M_coordinate 99 = .ok (.iastore, 1) := by decide +kernel
theorem d_M_coordinate_100 : decode k_M_coordinate 100 = .ok (.iconst 1, 1) := by decide +kernel
theorem d_M_coordinate_101 : decode k_M_coordinate 101 = .ok (.ireturn, 1) := by decide +kernel
theorem d_M_coordinates_0 : decode k_M_coordinates 0 = .ok (.iconst 0, 1) := by decide +kernel
theorem d_M_coordinates_1 : decode k_M_coordinates 1 = .ok (.istore_n 1, 1) := by decide +kernel
theorem d_M_coordinates_2 : decode k_M_coordinates 2 = .ok (.iconst 1, 1) := by decide +kernel
theorem d_M_coordinates_3 : decode k_M_coordinates 3 = .ok (.istore_n 2, 1) := by decide +kernel
theorem d_M_coordinates_4 : decode k_M_coordinates 4 = .ok (.iload_n 2, 1) := by decide +kernel
theorem d_M_coordinates_5 : decode k_M_coordinates 5 = .ok (.iconst 1, 1) := by decide +kernel
theorem d_M_coordinates_6 : decode k_M_coordinates 6 = .ok (.if_icmp .ne 23, 3) := by decide +kernel
theorem d_M_coordinates_9 : decode k_M_coordinates 9 = .ok (.aload_n 0, 1) := by decide +kernel
theorem d_M_coordinates_10 : decode k_M_coordinates 10 = .ok (.invokevirtual 148, 3) := by decide +kernel
theorem d_M_coordinates_13 : decode k_M_coordinates 13 = .ok (.ifCond .ne 5, 3) := by decide +kernel
theorem d_M_coordinates_16 : decode k_M_coordinates 16 = .ok (.iconst (-1), 1) := by decide +kernel
theorem d_M_coordinates_17 : decode k_M_coordinates 17 = .ok (.ireturn, 1) := by decide +kernel
theorem d_M_coordinates_18 : decode k_M_coordinates 18 = .ok (.iinc 1 1, 3) := by decide +kernel
theorem d_M_coordinates_21 : decode k_M_coordinates 21 = .ok (.aload_n 0, 1) := by decide +kernel
theorem d_M_coordinates_22 : decode k_M_coordinates 22 = .ok (.invokevirtual 151, 3) := by decide +kernel
theorem d_M_coordinates_25 : decode k_M_coordinates 25 = .ok (.istore_n 2, 1) := by decide +kernel
theorem d_M_coordinates_26 : decode k_M_coordinates 26 = .ok (.goto (-22), 3) := by decide +kernel
theorem d_M_coordinates_29 : decode k_M_coordinates 29 = .ok (.iload_n 2, 1) := by decide +kernel
theorem d_M_coordinates_30 : decode k_M_coordinates 30 = .ok (.ifCond .ge 7, 3) := by decide +kernel
theorem d_M_coordinates_33 : decode k_M_coordinates 33 = .ok (.iconst (-1), 1) := by decide +kernel
theorem d_M_coordinates_34 : decode k_M_coordinates 34 = .ok (.goto 4, 3) := by decide +kernel
theorem d_M_coordinates_37 : decode k_M_coordinates 37 = .ok (.iload_n 1, 1) := by decide +kernel
theorem d_M_coordinates_38 : decode k_M_coordinates 38 = .ok (.ireturn, 1) := by decide +kernel
theorem d_M_rings_0 : decode k_M_rings 0 = .ok (.iconst 0, 1) := by decide +kernel
theorem d_M_rings_1 : decode k_M_rings 1 = .ok (.istore_n 1, 1) := by decide +kernel
theorem d_M_rings_2 : decode k_M_rings 2 = .ok (.iconst 1, 1) := by decide +kernel
theorem d_M_rings_3 : decode k_M_rings 3 = .ok (.istore_n 2, 1) := by decide +kernel
theorem d_M_rings_4 : decode k_M_rings 4 = .ok (.iload_n 2, 1) := by decide +kernel
theorem d_M_rings_5 : decode k_M_rings 5 = .ok (.iconst 1, 1) := by decide +kernel
theorem d_M_rings_6 : decode k_M_rings 6 = .ok (.if_icmp .ne 90, 3) := by decide +kernel
theorem d_M_rings_9 : decode k_M_rings 9 = .ok (.aload_n 0, 1) := by decide +kernel
theorem d_M_rings_10 : decode k_M_rings 10 = .ok (.invokevirtual 106, 3) := by decide +kernel
theorem d_M_rings_13 : decode k_M_rings 13 = .ok (.aload_n 0, 1) := by decide +kernel
theorem d_M_rings_14 : decode k_M_rings 14 = .ok (.iconst 1, 1) := by decide +kernel
theorem d_M_rings_15 : decode k_M_rings 15 = .ok (.iconst 0, 1) := by decide +kernel
theorem d_M_rings_16 : decode k_M_rings 16 = .ok (.invokevirtual 142, 3) := by decide +kernel
theorem d_M_rings_19 : decode k_M_rings 19 = .ok (.ifCond .ne 16, 3) := by decide +kernel
theorem d_M_rings_22 : decode k_M_rings 22 = .ok (.aload_n 0, 1) := by decide +kernel
theorem d_M_rings_23 : decode k_M_rings 23 = .ok (.bipush 7, 2) := by decide +kernel
theorem d_M_rings_25 : decode k_M_rings 25 = .ok (.aload_n 0, 1) := by decide +kernel
theorem d_M_rings_26 : decode k_M_rings 26 = .ok (.getfield 83, 3) := by decide +kernel
theorem d_M_rings_29 : decode k_M_rings 29 = .ok (.invokevirtual 102, 3) := by decide +kernel
theorem d_M_rings_32 : decode k_M_rings 32 = .ok (.pop, 1) := by decide +kernel
theorem d_M_rings_33 : decode k_M_rings 33 = .ok (.iconst (-1), 1) := by decide +kernel
theorem d_M_rings_34 : decode k_M_rings 34 = .ok (.ireturn, 1) := by decide +kernel
theorem d_M_rings_35 : decode k_M_rings 35 = .ok (.aload_n 0, 1) := by decide +kernel
theorem d_M_rings_36 : decode k_M_rings 36 = .ok (.iconst 0, 1) := by decide +kernel
