theorem d_T_init_0 : decode k_T_init 0 = .ok (.aload_n 0, 1) := by decide +kernel
theorem d_T_init_1 : decode k_T_init 1 = .ok (.invokespecial 3, 3) := by decide +kernel
theorem d_T_init_4 : decode k_T_init 4 = .ok (.aload_n 0, 1) := by decide +kernel
theorem d_T_init_5 : decode k_T_init 5 = .ok (.ldc 9, 2) := by decide +kernel
theorem d_T_init_7 : decode k_T_init 7 = .ok (.newarray .byte, 2) := by decide +kernel
theorem d_T_init_9 : decode k_T_init 9 = .ok (.putfield 10, 3) := by decide +kernel
theorem d_T_init_12 : decode k_T_init 12 = .ok (.aload_n 0, 1) := by decide +kernel
theorem d_T_init_13 : decode k_T_init 13 = .ok (.bipush 12, 2) := by decide +kernel
theorem d_T_init_15 : decode k_T_init 15 = .ok (.newarray .int, 2) := by decide +kernel
theorem d_T_init_17 : decode k_T_init 17 = .ok (.putfield 16, 3) := by decide +kernel
theorem d_T_init_20 : decode k_T_init 20 = .ok (.aload_n 0, 1) := by decide +kernel
theorem d_T_init_21 : decode k_T_init 21 = .ok (.new 20, 3) := by decide +kernel
theorem d_T_init_24 : decode k_T_init 24 = .ok (.dup, 1) := by decide +kernel
theorem d_T_init_25 : decode k_T_init 25 = .ok (.invokespecial 22, 3) := by decide +kernel
theorem d_T_init_28 : decode k_T_init 28 = .ok (.putfield 23, 3) := by decide +kernel
theorem d_T_init_31 : decode k_T_init 31 = .ok (.aload_n 0, 1) := by decide +kernel
theorem d_T_init_32 : decode k_T_init 32 = .ok (.iload_n 1, 1) := by decide +kernel
theorem d_T_init_33 : decode k_T_init 33 = .ok (.putfield 27, 3) := by decide +kernel
theorem d_T_init_36 : decode k_T_init 36 = .ok (.return_, 1) := by decide +kernel
theorem d_T_lay_0 : decode k_T_lay 0 = .ok (.aload_n 0, 1) := by decide +kernel
theorem d_T_lay_1 : decode k_T_lay 1 = .ok (.iload_n 2, 1) := by decide +kernel
theorem d_T_lay_2 : decode k_T_lay 2 = .ok (.putfield 31, 3) := by decide +kernel
theorem d_T_lay_5 : decode k_T_lay 5 = .ok (.aload_n 0, 1) := by decide +kernel
theorem d_T_lay_6 : decode k_T_lay 6 = .ok (.iconst 0, 1) := by decide +kernel
theorem d_T_lay_7 : decode k_T_lay 7 = .ok (.putfield 35, 3) := by decide +kernel
theorem d_T_lay_10 : decode k_T_lay 10 = .ok (.aload_n 0, 1) := by decide +kernel
theorem d_T_lay_11 : decode k_T_lay 11 = .ok (.iconst 0, 1) := by decide +kernel
theorem d_T_lay_12 : decode k_T_lay 12 = .ok (.putfield 38, 3) := by decide +kernel
theorem d_T_lay_15 : decode k_T_lay 15 = .ok (.aload_n 0, 1) := by decide +kernel
theorem d_T_lay_16 : decode k_T_lay 16 = .ok (.iconst 0, 1) := by decide +kernel
theorem d_T_lay_17 : decode k_T_lay 17 = .ok (.putfield 41, 3) := by decide +kernel
theorem d_T_lay_20 : decode k_T_lay 20 = .ok (.aload_n 0, 1) := by decide +kernel
theorem d_T_lay_21 : decode k_T_lay 21 = .ok (.iconst 1, 1) := by decide +kernel
theorem d_T_lay_22 : decode k_T_lay 22 = .ok (.putfield 44, 3) := by decide +kernel
theorem d_T_lay_25 : decode k_T_lay 25 = .ok (.aload_n 0, 1) := by decide +kernel
theorem d_T_lay_26 : decode k_T_lay 26 = .ok (.getfield 23, 3) := by decide +kernel
theorem d_T_lay_29 : decode k_T_lay 29 = .ok (.iconst 1, 1) := by decide +kernel
theorem d_T_lay_30 : decode k_T_lay 30 = .ok (.invokevirtual 47, 3) := by decide +kernel
theorem d_T_lay_33 : decode k_T_lay 33 = .ok (.iconst 2, 1) := by decide +kernel
theorem d_T_lay_34 : decode k_T_lay 34 = .ok (.aload_n 1, 1) := by decide +kernel
theorem d_T_lay_35 : decode k_T_lay 35 = .ok (.getfield 51, 3) := by decide +kernel
theorem d_T_lay_38 : decode k_T_lay 38 = .ok (.imul, 1) := by decide +kernel
theorem d_T_lay_39 : decode k_T_lay 39 = .ok (.aload_n 1, 1) := by decide +kernel
theorem d_T_lay_40 : decode k_T_lay 40 = .ok (.getfield 56, 3) := by decide +kernel
theorem d_T_lay_43 : decode k_T_lay 43 = .ok (.iadd, 1) := by decide +kernel
theorem d_T_lay_44 : decode k_T_lay 44 = .ok (.istore_n 3, 1) := by decide +kernel
theorem d_T_lay_45 : decode k_T_lay 45 = .ok (.iconst 0, 1) := by decide +kernel
theorem d_T_lay_46 : decode k_T_lay 46 = .ok (.istore 4, 2) := by decide +kernel
theorem d_T_lay_48 : decode k_T_lay 48 = .ok (.iload 4, 2) := by decide +kernel
theorem d_T_lay_50 : decode k_T_lay 50 = .ok (.iload_n 3, 1) := by decide +kernel
theorem d_T_lay_51 : decode k_T_lay 51 = .ok (.if_icmp .ge 60, 3) := by decide +kernel
theorem d_T_lay_54 : decode k_T_lay 54 = .ok (.aload_n 0, 1) := by decide +kernel
theorem d_T_lay_55 : decode k_T_lay 55 = .ok (.getfield 23, 3) := by decide +kernel
theorem d_T_lay_58 : decode k_T_lay 58 = .ok (.getfield 59, 3) := by decide +kernel
theorem d_T_lay_61 : decode k_T_lay 61 = .ok (.ifCond .gt 13, 3) := by decide +kernel
theorem d_T_lay_64 : decode k_T_lay 64 = .ok (.aload_n 0, 1) := by decide +kernel
theorem d_T_lay_65 : decode k_T_lay 65 = .ok (.getfield 23, 3) := by decide +kernel
theorem d_T_lay_68 : decode k_T_lay 68 = .ok (.invokevirtual 62, 3) := by decide +kernel
theorem d_T_lay_71 : decode k_T_lay 71 = .ok (.ifCond .le 40, 3) := by decide +kernel
theorem d_T_lay_74 : decode k_T_lay 74 = .ok (.aload_n 0, 1) := by decide +kernel
theorem d_T_lay_75 : decode k_T_lay 75 = .ok (.getfield 23, 3) := by decide +kernel
theorem d_T_lay_78 : decode k_T_lay 78 = .ok (.invokevirtual 62, 3) := by decide +kernel
theorem d_T_lay_81 : decode k_T_lay 81 = .ok (.ifCond .le 11, 3) := by decide +kernel
theorem d_T_lay_84 : decode k_T_lay 84 = .ok (.aload_n 0, 1) := by decide +kernel
theorem d_T_lay_85 : decode k_T_lay 85 = .ok (.aload_n 1, 1) := by decide +kernel
theorem d_T_lay_86 : decode k_T_lay 86 = .ok (.invokevirtual 66, 3) := by decide +kernel
theorem d_T_lay_89 : decode k_T_lay 89 = .ok (.goto 16, 3) := by decide +kernel
theorem d_T_lay_92 : decode k_T_lay 92 = .ok (.aload_n 0, 1) := by decide +kernel
theorem d_T_lay_93 : decode k_T_lay 93 = .ok (.bipush 41, 2) := by decide +kernel
theorem d_T_lay_95 : decode k_T_lay 95 = .ok (.invokevirtual 70, 3) := by decide +kernel
theorem d_T_lay_98 : decode k_T_lay 98 = .ok (.aload_n 0, 1) := by decide +kernel
theorem d_T_lay_99 : decode k_T_lay 99 = .ok (.getfield 23, 3) := by decide +kernel
theorem d_T_lay_102 : decode k_T_lay 102 = .ok (.invokevirtual 73, 3) := by decide +kernel
theorem d_T_lay_105 : decode k_T_lay 105 = .ok (.iinc 4 1, 3) := by decide +kernel
theorem d_T_lay_108 : decode k_T_lay 108 = .ok (.goto (-60), 3) := by decide +kernel
theorem d_T_lay_111 : decode k_T_lay 111 = .ok (.aload_n 0, 1) := by decide +kernel
theorem d_T_lay_112 : decode k_T_lay 112 = .ok (.getfield 35, 3) := by decide +kernel
theorem d_T_lay_115 : decode k_T_lay 115 = .ok (.ireturn, 1) := by decide +kernel
theorem d_T_layItem_0 : decode k_T_layItem 0 = .ok (.aload_n 0, 1) := by decide +kernel
theorem d_T_layItem_1 : decode k_T_layItem 1 = .ok (.getfield 44, 3) := by decide +kernel
theorem d_T_layItem_4 : decode k_T_layItem 4 = .ok (.ifCond .ne 15, 3) := by decide +kernel
theorem d_T_layItem_7 : decode k_T_layItem 7 = .ok (.aload_n 0, 1) := by decide +kernel
theorem d_T_layItem_8 : decode k_T_layItem 8 = .ok (.bipush 44, 2) := by decide +kernel
theorem d_T_layItem_10 : decode k_T_layItem 10 = .ok (.invokevirtual 70, 3) := by decide +kernel
theorem d_T_layItem_13 : decode k_T_layItem 13 = .ok (.aload_n 0, 1) := by decide +kernel
theorem d_T_layItem_14 : decode k_T_layItem 14 = .ok (.bipush 32, 2) := by decide +kernel
theorem d_T_layItem_16 : decode k_T_layItem 16 = .ok (.invokevirtual 70, 3) := by decide +kernel
theorem d_T_layItem_19 : decode k_T_layItem 19 = .ok (.aload_n 0, 1) := by decide +kernel
theorem d_T_layItem_20 : decode k_T_layItem 20 = .ok (.iconst 0, 1) := by decide +kernel
theorem d_T_layItem_21 : decode k_T_layItem 21 = .ok (.putfield 44, 3) := by decide +kernel
theorem d_T_layItem_24 : decode k_T_layItem 24 = .ok (.aload_n 0, 1) := by decide +kernel
theorem d_T_layItem_25 : decode k_T_layItem 25 = .ok (.getfield 23, 3) := by decide +kernel
theorem d_T_layItem_28 : decode k_T_layItem 28 = .ok (.invokevirtual 76, 3) := by decide +kernel
theorem d_T_layItem_31 : decode k_T_layItem 31 = .ok (.aload_n 0, 1) := by decide +kernel
theorem d_T_layItem_32 : decode k_T_layItem 32 = .ok (.getfield 23, 3) := by decide +kernel
theorem d_T_layItem_35 : decode k_T_layItem 35 = .ok (.invokevirtual 79, 3) := by decide +kernel
theorem d_T_layItem_38 : decode k_T_layItem 38 = .ok (.tableswitch 115 0 7 #[46, 115, 115, 101, 84, 84, 84, 46], 46) := by decide +kernel
theorem d_T_layItem_84 : decode k_T_layItem 84 = .ok (.aload_n 0, 1) := by decide +kernel
theorem d_T_layItem_85 : decode k_T_layItem 85 = .ok (.aload_n 1, 1) := by decide +kernel
theorem d_T_layItem_86 : decode k_T_layItem 86 = .ok (.aload_n 0, 1) := by decide +kernel
theorem d_T_layItem_87 : decode k_T_layItem 87 = .ok (.getfield 38, 3) := by decide +kernel
theorem d_T_layItem_90 : decode k_T_layItem 90 = .ok (.invokevirtual 82, 3) := by decide +kernel
theorem d_T_layItem_93 : decode k_T_layItem 93 = .ok (.invokestatic 86, 3) := by decide +kernel
theorem d_T_layItem_96 : decode k_T_layItem 96 = .ok (.invokevirtual 90, 3) := by decide +kernel
theorem d_T_layItem_99 : decode k_T_layItem 99 = .ok (.aload_n 0, 1) := by decide +kernel
theorem d_T_layItem_100 : decode k_T_layItem 100 = .ok (.bipush 32, 2) := by decide +kernel
theorem d_T_layItem_102 : decode k_T_layItem 102 = .ok (.invokevirtual 70, 3) := by decide +kernel
theorem d_T_layItem_105 : decode k_T_layItem 105 = .ok (.aload_n 0, 1) := by decide +kernel
theorem d_T_layItem_106 : decode k_T_layItem 106 = .ok (.aload_n 0, 1) := by decide +kernel
theorem d_T_layItem_107 : decode k_T_layItem 107 = .ok (.aload_n 1, 1) := by decide +kernel
theorem d_T_layItem_108 : decode k_T_layItem 108 = .ok (.invokevirtual 94, 3) := by decide +kernel
theorem d_T_layItem_111 : decode k_T_layItem 111 = .ok (.aload_n 0, 1) := by decide +kernel
theorem d_T_layItem_112 : decode k_T_layItem 112 = .ok (.aload_n 1, 1) := by decide +kernel
theorem d_T_layItem_113 : decode k_T_layItem 113 = .ok (.invokevirtual 94, 3) := by decide +kernel
theorem d_T_layItem_116 : decode k_T_layItem 116 = .ok (.invokevirtual 98, 3) := by decide +kernel
theorem d_T_layItem_119 : decode k_T_layItem 119 = .ok (.goto 39, 3) := by decide +kernel
theorem d_T_layItem_122 : decode k_T_layItem 122 = .ok (.aload_n 0, 1) := by decide +kernel
theorem d_T_layItem_123 : decode k_T_layItem 123 = .ok (.aload_n 0, 1) := by decide +kernel
theorem d_T_layItem_124 : decode k_T_layItem 124 = .ok (.aload_n 1, 1) := by decide +kernel
theorem d_T_layItem_125 : decode k_T_layItem 125 = .ok (.invokevirtual 94, 3) := by decide +kernel
theorem d_T_layItem_128 : decode k_T_layItem 128 = .ok (.aload_n 0, 1) := by decide +kernel
theorem d_T_layItem_129 : decode k_T_layItem 129 = .ok (.aload_n 1, 1) := by decide +kernel
theorem d_T_layItem_130 : decode k_T_layItem 130 = .ok (.invokevirtual 94, 3) := by decide +kernel
theorem d_T_layItem_133 : decode k_T_layItem 133 = .ok (.invokevirtual 98, 3) := by decide +kernel
theorem d_T_layItem_136 : decode k_T_layItem 136 = .ok (.goto 22, 3) := by decide +kernel
theorem d_T_layItem_139 : decode k_T_layItem 139 = .ok (.aload_n 0, 1) := by decide +kernel
theorem d_T_layItem_140 : decode k_T_layItem 140 = .ok (.bipush 8, 2) := by decide +kernel
theorem d_T_layItem_142 : decode k_T_layItem 142 = .ok (.aload_n 0, 1) := by decide +kernel
theorem d_T_layItem_143 : decode k_T_layItem 143 = .ok (.aload_n 1, 1) := by decide +kernel
theorem d_T_layItem_144 : decode k_T_layItem 144 = .ok (.invokevirtual 94, 3) := by decide +kernel
theorem d_T_layItem_147 : decode k_T_layItem 147 = .ok (.invokevirtual 98, 3) := by decide +kernel
theorem d_T_layItem_150 : decode k_T_layItem 150 = .ok (.goto 8, 3) := by decide +kernel
theorem d_T_layItem_153 : decode k_T_layItem 153 = .ok (.aload_n 0, 1) := by decide +kernel
theorem d_T_layItem_154 : decode k_T_layItem 154 = .ok (.aload_n 1, 1) := by decide +kernel
theorem d_T_layItem_155 : decode k_T_layItem 155 = .ok (.invokevirtual 102, 3) := by decide +kernel
theorem d_T_layItem_158 : decode k_T_layItem 158 = .ok (.return_, 1) := by decide +kernel
theorem d_T_takeNumber_0 : decode k_T_takeNumber 0 = .ok (.aload_n 1, 1) := by decide +kernel
theorem d_T_takeNumber_1 : decode k_T_takeNumber 1 = .ok (.aload_n 0, 1) := by decide +kernel
theorem d_T_takeNumber_2 : decode k_T_takeNumber 2 = .ok (.getfield 38, 3) := by decide +kernel
theorem d_T_takeNumber_5 : decode k_T_takeNumber 5 = .ok (.invokevirtual 82, 3) := by decide +kernel
theorem d_T_takeNumber_8 : decode k_T_takeNumber 8 = .ok (.istore_n 2, 1) := by decide +kernel
theorem d_T_takeNumber_9 : decode k_T_takeNumber 9 = .ok (.aload_n 0, 1) := by decide +kernel
theorem d_T_takeNumber_10 : decode k_T_takeNumber 10 = .ok (.dup, 1) := by decide +kernel
theorem d_T_takeNumber_11 : decode k_T_takeNumber 11 = .ok (.getfield 38, 3) := by decide +kernel
theorem d_T_takeNumber_14 : decode k_T_takeNumber 14 = .ok (.iconst 1, 1) := by decide +kernel
theorem d_T_takeNumber_15 : decode k_T_takeNumber 15 = .ok (.iadd, 1) := by decide +kernel
theorem d_T_takeNumber_16 : decode k_T_takeNumber 16 = .ok (.putfield 38, 3) := by decide +kernel
theorem d_T_takeNumber_19 : decode k_T_takeNumber 19 = .ok (.iload_n 2, 1) := by decide +kernel
theorem d_T_takeNumber_20 : decode k_T_takeNumber 20 = .ok (.ireturn, 1) := by decide +kernel
theorem d_T_layBody_0 : decode k_T_layBody 0 = .ok (.iload_n 2, 1) := by decide +kernel
theorem d_T_layBody_1 : decode k_T_layBody 1 = .ok (.ifCond .ne 10, 3) := by decide +kernel
theorem d_T_layBody_4 : decode k_T_layBody 4 = .ok (.aload_n 0, 1) := by decide +kernel
theorem d_T_layBody_5 : decode k_T_layBody 5 = .ok (.ldc 105, 2) := by decide +kernel
theorem d_T_layBody_7 : decode k_T_layBody 7 = .ok (.invokevirtual 90, 3) := by decide +kernel
theorem d_T_layBody_10 : decode k_T_layBody 10 = .ok (.return_, 1) := by decide +kernel
theorem d_T_layBody_11 : decode k_T_layBody 11 = .ok (.aload_n 0, 1) := by decide +kernel
theorem d_T_layBody_12 : decode k_T_layBody 12 = .ok (.bipush 40, 2) := by decide +kernel
theorem d_T_layBody_14 : decode k_T_layBody 14 = .ok (.invokevirtual 70, 3) := by decide +kernel
theorem d_T_layBody_17 : decode k_T_layBody 17 = .ok (.aload_n 0, 1) := by decide +kernel
theorem d_T_layBody_18 : decode k_T_layBody 18 = .ok (.getfield 23, 3) := by decide +kernel
theorem d_T_layBody_21 : decode k_T_layBody 21 = .ok (.iload_n 1, 1) := by decide +kernel
theorem d_T_layBody_22 : decode k_T_layBody 22 = .ok (.iload_n 2, 1) := by decide +kernel
theorem d_T_layBody_23 : decode k_T_layBody 23 = .ok (.invokevirtual 107, 3) := by decide +kernel
theorem d_T_layBody_26 : decode k_T_layBody 26 = .ok (.aload_n 0, 1) := by decide +kernel
theorem d_T_layBody_27 : decode k_T_layBody 27 = .ok (.iconst 1, 1) := by decide +kernel
theorem d_T_layBody_28 : decode k_T_layBody 28 = .ok (.putfield 44, 3) := by decide +kernel
theorem d_T_layBody_31 : decode k_T_layBody 31 = .ok (.return_, 1) := by decide +kernel
theorem d_T_layPoint_0 : decode k_T_layPoint 0 = .ok (.aload_n 0, 1) := by decide +kernel
theorem d_T_layPoint_1 : decode k_T_layPoint 1 = .ok (.aload_n 1, 1) := by decide +kernel
theorem d_T_layPoint_2 : decode k_T_layPoint 2 = .ok (.aload_n 0, 1) := by decide +kernel
theorem d_T_layPoint_3 : decode k_T_layPoint 3 = .ok (.getfield 41, 3) := by decide +kernel
theorem d_T_layPoint_6 : decode k_T_layPoint 6 = .ok (.iconst 0, 1) := by decide +kernel
theorem d_T_layPoint_7 : decode k_T_layPoint 7 = .ok (.invokevirtual 109, 3) := by decide +kernel
theorem d_T_layPoint_10 : decode k_T_layPoint 10 = .ok (.invokevirtual 113, 3) := by decide +kernel
theorem d_T_layPoint_13 : decode k_T_layPoint 13 = .ok (.aload_n 0, 1) := by decide +kernel
theorem d_T_layPoint_14 : decode k_T_layPoint 14 = .ok (.bipush 32, 2) := by decide +kernel
theorem d_T_layPoint_16 : decode k_T_layPoint 16 = .ok (.invokevirtual 70, 3) := by decide +kernel
theorem d_T_layPoint_19 : decode k_T_layPoint 19 = .ok (.aload_n 0, 1) := by decide +kernel
theorem d_T_layPoint_20 : decode k_T_layPoint 20 = .ok (.aload_n 1, 1) := by decide +kernel
theorem d_T_layPoint_21 : decode k_T_layPoint 21 = .ok (.aload_n 0, 1) := by decide +kernel
theorem d_T_layPoint_22 : decode k_T_layPoint 22 = .ok (.getfield 41, 3) := by decide +kernel
theorem d_T_layPoint_25 : decode k_T_layPoint 25 = .ok (.iconst 1, 1) := by decide +kernel
theorem d_T_layPoint_26 : decode k_T_layPoint 26 = .ok (.invokevirtual 109, 3) := by decide +kernel
theorem d_T_layPoint_29 : decode k_T_layPoint 29 = .ok (.invokevirtual 113, 3) := by decide +kernel
theorem d_T_layPoint_32 : decode k_T_layPoint 32 = .ok (.aload_n 0, 1) := by decide +kernel
theorem d_T_layPoint_33 : decode k_T_layPoint 33 = .ok (.dup, 1) := by decide +kernel
theorem d_T_layPoint_34 : decode k_T_layPoint 34 = .ok (.getfield 41, 3) := by decide +kernel
theorem d_T_layPoint_37 : decode k_T_layPoint 37 = .ok (.iconst 1, 1) := by decide +kernel
theorem d_T_layPoint_38 : decode k_T_layPoint 38 = .ok (.iadd, 1) := by decide +kernel
theorem d_T_layPoint_39 : decode k_T_layPoint 39 = .ok (.putfield 41, 3) := by decide +kernel
theorem d_T_layPoint_42 : decode k_T_layPoint 42 = .ok (.return_, 1) := by decide +kernel
theorem d_T_layNumber_0 : decode k_T_layNumber 0 = .ok (.iload_n 1, 1) := by decide +kernel
theorem d_T_layNumber_1 : decode k_T_layNumber 1 = .ok (.ifCond .ge 9, 3) := by decide +kernel
theorem d_T_layNumber_4 : decode k_T_layNumber 4 = .ok (.aload_n 0, 1) := by decide +kernel
theorem d_T_layNumber_5 : decode k_T_layNumber 5 = .ok (.bipush 45, 2) := by decide +kernel
theorem d_T_layNumber_7 : decode k_T_layNumber 7 = .ok (.invokevirtual 70, 3) := by decide +kernel
theorem d_T_layNumber_10 : decode k_T_layNumber 10 = .ok (.iload_n 1, 1) := by decide +kernel
theorem d_T_layNumber_11 : decode k_T_layNumber 11 = .ok (.ifCond .ge 8, 3) := by decide +kernel
theorem d_T_layNumber_14 : decode k_T_layNumber 14 = .ok (.iload_n 1, 1) := by decide +kernel
theorem d_T_layNumber_15 : decode k_T_layNumber 15 = .ok (.ineg, 1) := by decide +kernel
theorem d_T_layNumber_16 : decode k_T_layNumber 16 = .ok (.goto 4, 3) := by decide +kernel
theorem d_T_layNumber_19 : decode k_T_layNumber 19 = .ok (.iload_n 1, 1) := by decide +kernel
theorem d_T_layNumber_20 : decode k_T_layNumber 20 = .ok (.istore_n 2, 1) := by decide +kernel
theorem d_T_layNumber_21 : decode k_T_layNumber 21 = .ok (.iconst 0, 1) := by decide +kernel
theorem d_T_layNumber_22 : decode k_T_layNumber 22 = .ok (.istore_n 3, 1) := by decide +kernel
theorem d_T_layNumber_23 : decode k_T_layNumber 23 = .ok (.iload_n 3, 1) := by decide +kernel
theorem d_T_layNumber_24 : decode k_T_layNumber 24 = .ok (.bipush 12, 2) := by decide +kernel
theorem d_T_layNumber_26 : decode k_T_layNumber 26 = .ok (.if_icmp .ge 36, 3) := by decide +kernel
theorem d_T_layNumber_29 : decode k_T_layNumber 29 = .ok (.iload_n 3, 1) := by decide +kernel
theorem d_T_layNumber_30 : decode k_T_layNumber 30 = .ok (.aload_n 0, 1) := by decide +kernel
theorem d_T_layNumber_31 : decode k_T_layNumber 31 = .ok (.getfield 27, 3) := by decide +kernel
theorem d_T_layNumber_34 : decode k_T_layNumber 34 = .ok (.if_icmp .le 7, 3) := by decide +kernel
theorem d_T_layNumber_37 : decode k_T_layNumber 37 = .ok (.iload_n 2, 1) := by decide +kernel
theorem d_T_layNumber_38 : decode k_T_layNumber 38 = .ok (.ifCond .le 24, 3) := by decide +kernel
theorem d_T_layNumber_41 : decode k_T_layNumber 41 = .ok (.aload_n 0, 1) := by decide +kernel
theorem d_T_layNumber_42 : decode k_T_layNumber 42 = .ok (.getfield 16, 3) := by decide +kernel
theorem d_T_layNumber_45 : decode k_T_layNumber 45 = .ok (.iload_n 3, 1) := by decide +kernel
theorem d_T_layNumber_46 : decode k_T_layNumber 46 = .ok (.iload_n 2, 1) := by decide +kernel
theorem d_T_layNumber_47 : decode k_T_layNumber 47 = .ok (.bipush 10, 2) := by decide +kernel
theorem d_T_layNumber_49 : decode k_T_layNumber 49 = .ok (.irem, 1) := by decide +kernel
theorem d_T_layNumber_50 : decode k_T_layNumber 50 = .ok (.iastore, 1) := by decide +kernel
theorem d_T_layNumber_51 : decode k_T_layNumber 51 = .ok (.iload_n 2, 1) := by decide +kernel
theorem d_T_layNumber_52 : decode k_T_layNumber 52 = .ok (.bipush 10, 2) := by decide +kernel
theorem d_T_layNumber_54 : decode k_T_layNumber 54 = .ok (.idiv, 1) := by decide +kernel
theorem d_T_layNumber_55 : decode k_T_layNumber 55 = .ok (.istore_n 2, 1) := by decide +kernel
theorem d_T_layNumber_56 : decode k_T_layNumber 56 = .ok (.iinc 3 1, 3) := by decide +kernel
theorem d_T_layNumber_59 : decode k_T_layNumber 59 = .ok (.goto (-36), 3) := by decide +kernel
theorem d_T_layNumber_62 : decode k_T_layNumber 62 = .ok (.iconst 0, 1) := by decide +kernel
theorem d_T_layNumber_63 : decode k_T_layNumber 63 = .ok (.istore 4, 2) := by decide +kernel
theorem d_T_layNumber_65 : decode k_T_layNumber 65 = .ok (.iload 4, 2) := by decide +kernel
theorem d_T_layNumber_67 : decode k_T_layNumber 67 = .ok (.aload_n 0, 1) := by decide +kernel
theorem d_T_layNumber_68 : decode k_T_layNumber 68 = .ok (.getfield 27, 3) := by decide +kernel
theorem d_T_layNumber_71 : decode k_T_layNumber 71 = .ok (.if_icmp .ge 19, 3) := by decide +kernel
theorem d_T_layNumber_74 : decode k_T_layNumber 74 = .ok (.aload_n 0, 1) := by decide +kernel
theorem d_T_layNumber_75 : decode k_T_layNumber 75 = .ok (.getfield 16, 3) := by decide +kernel
theorem d_T_layNumber_78 : decode k_T_layNumber 78 = .ok (.iload 4, 2) := by decide +kernel
theorem d_T_layNumber_80 : decode k_T_layNumber 80 = .ok (.iaload, 1) := by decide +kernel
theorem d_T_layNumber_81 : decode k_T_layNumber 81 = .ok (.ifCond .ne 9, 3) := by decide +kernel
theorem d_T_layNumber_84 : decode k_T_layNumber 84 = .ok (.iinc 4 1, 3) := by decide +kernel
theorem d_T_layNumber_87 : decode k_T_layNumber 87 = .ok (.goto (-22), 3) := by decide +kernel
theorem d_T_layNumber_90 : decode k_T_layNumber 90 = .ok (.iload_n 3, 1) := by decide +kernel
theorem d_T_layNumber_91 : decode k_T_layNumber 91 = .ok (.iconst 1, 1) := by decide +kernel
theorem d_T_layNumber_92 : decode k_T_layNumber 92 = .ok (.isub, 1) := by decide +kernel
theorem d_T_layNumber_93 : decode k_T_layNumber 93 = .ok (.istore 5, 2) := by decide +kernel
theorem d_T_layNumber_95 : decode k_T_layNumber 95 = .ok (.iload 5, 2) := by decide +kernel
theorem d_T_layNumber_97 : decode k_T_layNumber 97 = .ok (.iload 4, 2) := by decide +kernel
theorem d_T_layNumber_99 : decode k_T_layNumber 99 = .ok (.if_icmp .lt 40, 3) := by decide +kernel
theorem d_T_layNumber_102 : decode k_T_layNumber 102 = .ok (.iload 5, 2) := by decide +kernel
theorem d_T_layNumber_104 : decode k_T_layNumber 104 = .ok (.aload_n 0, 1) := by decide +kernel
theorem d_T_layNumber_105 : decode k_T_layNumber 105 = .ok (.getfield 27, 3) := by decide +kernel
theorem d_T_layNumber_108 : decode k_T_layNumber 108 = .ok (.iconst 1, 1) := by decide +kernel
theorem d_T_layNumber_109 : decode k_T_layNumber 109 = .ok (.isub, 1) := by decide +kernel
theorem d_T_layNumber_110 : decode k_T_layNumber 110 = .ok (.if_icmp .ne 9, 3) := by decide +kernel
theorem d_T_layNumber_113 : decode k_T_layNumber 113 = .ok (.aload_n 0, 1) := by decide +kernel
theorem d_T_layNumber_114 : decode k_T_layNumber 114 = .ok (.bipush 46, 2) := by decide +kernel
theorem d_T_layNumber_116 : decode k_T_layNumber 116 = .ok (.invokevirtual 70, 3) := by decide +kernel
theorem d_T_layNumber_119 : decode k_T_layNumber 119 = .ok (.aload_n 0, 1) := by decide +kernel
theorem d_T_layNumber_120 : decode k_T_layNumber 120 = .ok (.bipush 48, 2) := by decide +kernel
theorem d_T_layNumber_122 : decode k_T_layNumber 122 = .ok (.aload_n 0, 1) := by decide +kernel
theorem d_T_layNumber_123 : decode k_T_layNumber 123 = .ok (.getfield 16, 3) := by decide +kernel
theorem d_T_layNumber_126 : decode k_T_layNumber 126 = .ok (.iload 5, 2) := by decide +kernel
theorem d_T_layNumber_128 : decode k_T_layNumber 128 = .ok (.iaload, 1) := by decide +kernel
theorem d_T_layNumber_129 : decode k_T_layNumber 129 = .ok (.iadd, 1) := by decide +kernel
theorem d_T_layNumber_130 : decode k_T_layNumber 130 = .ok (.invokevirtual 70, 3) := by decide +kernel
theorem d_T_layNumber_133 : decode k_T_layNumber 133 = .ok (.iinc 5 (-1), 3) := by decide +kernel
theorem d_T_layNumber_136 : decode k_T_layNumber 136 = .ok (.goto (-41), 3) := by decide +kernel
theorem d_T_layNumber_139 : decode k_T_layNumber 139 = .ok (.return_, 1) := by decide +kernel
theorem d_T_layWord_0 : decode k_T_layWord 0 = .ok (.iconst 0, 1) := by decide +kernel
theorem d_T_layWord_1 : decode k_T_layWord 1 = .ok (.istore_n 2, 1) := by decide +kernel
theorem d_T_layWord_2 : decode k_T_layWord 2 = .ok (.iload_n 2, 1) := by decide +kernel
theorem d_T_layWord_3 : decode k_T_layWord 3 = .ok (.aload_n 1, 1) := by decide +kernel
theorem d_T_layWord_4 : decode k_T_layWord 4 = .ok (.invokevirtual 116, 3) := by decide +kernel
theorem d_T_layWord_7 : decode k_T_layWord 7 = .ok (.if_icmp .ge 18, 3) := by decide +kernel
theorem d_T_layWord_10 : decode k_T_layWord 10 = .ok (.aload_n 0, 1) := by decide +kernel
theorem d_T_layWord_11 : decode k_T_layWord 11 = .ok (.aload_n 1, 1) := by decide +kernel
theorem d_T_layWord_12 : decode k_T_layWord 12 = .ok (.iload_n 2, 1) := by decide +kernel
theorem d_T_layWord_13 : decode k_T_layWord 13 = .ok (.invokevirtual 121, 3) := by decide +kernel
theorem d_T_layWord_16 : decode k_T_layWord 16 = .ok (.invokevirtual 70, 3) := by decide +kernel
theorem d_T_layWord_19 : decode k_T_layWord 19 = .ok (.iinc 2 1, 3) := by decide +kernel
theorem d_T_layWord_22 : decode k_T_layWord 22 = .ok (.goto (-20), 3) := by decide +kernel
theorem d_T_layWord_25 : decode k_T_layWord 25 = .ok (.return_, 1) := by decide +kernel
theorem d_T_put_0 : decode k_T_put 0 = .ok (.aload_n 0, 1) := by decide +kernel
theorem d_T_put_1 : decode k_T_put 1 = .ok (.getfield 31, 3) := by decide +kernel
theorem d_T_put_4 : decode k_T_put 4 = .ok (.ifCond .eq 23, 3) := by decide +kernel
theorem d_T_put_7 : decode k_T_put 7 = .ok (.aload_n 0, 1) := by decide +kernel
theorem d_T_put_8 : decode k_T_put 8 = .ok (.getfield 35, 3) := by decide +kernel
theorem d_T_put_11 : decode k_T_put 11 = .ok (.ldc 9, 2) := by decide +kernel
theorem d_T_put_13 : decode k_T_put 13 = .ok (.if_icmp .ge 14, 3) := by decide +kernel
theorem d_T_put_16 : decode k_T_put 16 = .ok (.aload_n 0, 1) := by decide +kernel
theorem d_T_put_17 : decode k_T_put 17 = .ok (.getfield 10, 3) := by decide +kernel
theorem d_T_put_20 : decode k_T_put 20 = .ok (.aload_n 0, 1) := by decide +kernel
theorem d_T_put_21 : decode k_T_put 21 = .ok (.getfield 35, 3) := by decide +kernel
theorem d_T_put_24 : decode k_T_put 24 = .ok (.iload_n 1, 1) := by decide +kernel
theorem d_T_put_25 : decode k_T_put 25 = .ok (.i2b, 1) := by decide +kernel
theorem d_T_put_26 : decode k_T_put 26 = .ok (.bastore, 1) := by decide +kernel
theorem d_T_put_27 : decode k_T_put 27 = .ok (.aload_n 0, 1) := by decide +kernel
theorem d_T_put_28 : decode k_T_put 28 = .ok (.dup, 1) := by decide +kernel
theorem d_T_put_29 : decode k_T_put 29 = .ok (.getfield 35, 3) := by decide +kernel
theorem d_T_put_32 : decode k_T_put 32 = .ok (.iconst 1, 1) := by decide +kernel
theorem d_T_put_33 : decode k_T_put 33 = .ok (.iadd, 1) := by decide +kernel
theorem d_T_put_34 : decode k_T_put 34 = .ok (.putfield 35, 3) := by decide +kernel
theorem d_T_put_37 : decode k_T_put 37 = .ok (.return_, 1) := by decide +kernel
