theorem d_M_again_2 : decode k_M_again 2 = .ok (.putfield 59, 3) := by decide +kernel
theorem d_M_again_5 : decode k_M_again 5 = .ok (.aload_n 0, 1) := by decide +kernel
theorem d_M_again_6 : decode k_M_again 6 = .ok (.aload_n 0, 1) := by decide +kernel
theorem d_M_again_7 : decode k_M_again 7 = .ok (.getfield 217, 3) := by decide +kernel
theorem d_M_again_10 : decode k_M_again 10 = .ok (.ldc 16, 2) := by decide +kernel
theorem d_M_again_12 : decode k_M_again 12 = .ok (.if_icmp .ge 10, 3) := by decide +kernel
theorem d_M_again_15 : decode k_M_again 15 = .ok (.aload_n 0, 1) := by decide +kernel
theorem d_M_again_16 : decode k_M_again 16 = .ok (.getfield 217, 3) := by decide +kernel
theorem d_M_again_19 : decode k_M_again 19 = .ok (.goto 5, 3) := by decide +kernel
theorem d_M_again_22 : decode k_M_again 22 = .ok (.ldc 16, 2) := by decide +kernel
theorem d_M_again_24 : decode k_M_again 24 = .ok (.putfield 66, 3) := by decide +kernel
theorem d_M_again_27 : decode k_M_again 27 = .ok (.iconst 0, 1) := by decide +kernel
theorem d_M_again_28 : decode k_M_again 28 = .ok (.istore_n 1, 1) := by decide +kernel
theorem d_M_again_29 : decode k_M_again 29 = .ok (.iload_n 1, 1) := by decide +kernel
theorem d_M_again_30 : decode k_M_again 30 = .ok (.aload_n 0, 1) := by decide +kernel
theorem d_M_again_31 : decode k_M_again 31 = .ok (.getfield 66, 3) := by decide +kernel
theorem d_M_again_34 : decode k_M_again 34 = .ok (.if_icmp .ge 21, 3) := by decide +kernel
theorem d_M_again_37 : decode k_M_again 37 = .ok (.aload_n 0, 1) := by decide +kernel
theorem d_M_again_38 : decode k_M_again 38 = .ok (.getfield 17, 3) := by decide +kernel
theorem d_M_again_41 : decode k_M_again 41 = .ok (.iload_n 1, 1) := by decide +kernel
theorem d_M_again_42 : decode k_M_again 42 = .ok (.aload_n 0, 1) := by decide +kernel
theorem d_M_again_43 : decode k_M_again 43 = .ok (.getfield 34, 3) := by decide +kernel
theorem d_M_again_46 : decode k_M_again 46 = .ok (.iload_n 1, 1) := by decide +kernel
theorem d_M_again_47 : decode k_M_again 47 = .ok (.iaload, 1) := by decide +kernel
theorem d_M_again_48 : decode k_M_again 48 = .ok (.iastore, 1) := by decide +kernel
theorem d_M_again_49 : decode k_M_again 49 = .ok (.iinc 1 1, 3) := by decide +kernel
theorem d_M_again_52 : decode k_M_again 52 = .ok (.goto (-23), 3) := by decide +kernel
theorem d_M_again_55 : decode k_M_again 55 = .ok (.aload_n 0, 1) := by decide +kernel
theorem d_M_again_56 : decode k_M_again 56 = .ok (.getfield 66, 3) := by decide +kernel
theorem d_M_again_59 : decode k_M_again 59 = .ok (.ireturn, 1) := by decide +kernel
theorem d_M_same_0 : decode k_M_same 0 = .ok (.aload_n 0, 1) := by decide +kernel
theorem d_M_same_1 : decode k_M_same 1 = .ok (.iconst 0, 1) := by decide +kernel
theorem d_M_same_2 : decode k_M_same 2 = .ok (.putfield 59, 3) := by decide +kernel
theorem d_M_same_5 : decode k_M_same 5 = .ok (.iload_n 1, 1) := by decide +kernel
theorem d_M_same_6 : decode k_M_same 6 = .ok (.invokestatic 186, 3) := by decide +kernel
theorem d_M_same_9 : decode k_M_same 9 = .ok (.ifCond .eq 10, 3) := by decide +kernel
theorem d_M_same_12 : decode k_M_same 12 = .ok (.iload_n 2, 1) := by decide +kernel
theorem d_M_same_13 : decode k_M_same 13 = .ok (.invokestatic 186, 3) := by decide +kernel
theorem d_M_same_16 : decode k_M_same 16 = .ok (.ifCond .ne 17, 3) := by decide +kernel
theorem d_M_same_19 : decode k_M_same 19 = .ok (.aload_n 0, 1) := by decide +kernel
theorem d_M_same_20 : decode k_M_same 20 = .ok (.iconst 1, 1) := by decide +kernel
theorem d_M_same_21 : decode k_M_same 21 = .ok (.invokevirtual 69, 3) := by decide +kernel
theorem d_M_same_24 : decode k_M_same 24 = .ok (.ifCond .le 7, 3) := by decide +kernel
theorem d_M_same_27 : decode k_M_same 27 = .ok (.iconst 1, 1) := by decide +kernel
theorem d_M_same_28 : decode k_M_same 28 = .ok (.goto 4, 3) := by decide +kernel
theorem d_M_same_31 : decode k_M_same 31 = .ok (.iconst 0, 1) := by decide +kernel
theorem d_M_same_32 : decode k_M_same 32 = .ok (.ireturn, 1) := by decide +kernel
theorem d_M_same_33 : decode k_M_same 33 = .ok (.aload_n 0, 1) := by decide +kernel
theorem d_M_same_34 : decode k_M_same 34 = .ok (.getfield 23, 3) := by decide +kernel
theorem d_M_same_37 : decode k_M_same 37 = .ok (.iload_n 1, 1) := by decide +kernel
theorem d_M_same_38 : decode k_M_same 38 = .ok (.iaload, 1) := by decide +kernel
theorem d_M_same_39 : decode k_M_same 39 = .ok (.aload_n 0, 1) := by decide +kernel
theorem d_M_same_40 : decode k_M_same 40 = .ok (.getfield 23, 3) := by decide +kernel
theorem d_M_same_43 : decode k_M_same 43 = .ok (.iload_n 2, 1) := by decide +kernel
theorem d_M_same_44 : decode k_M_same 44 = .ok (.iaload, 1) := by decide +kernel
theorem d_M_same_45 : decode k_M_same 45 = .ok (.if_icmp .ne 22, 3) := by decide +kernel
theorem d_M_same_48 : decode k_M_same 48 = .ok (.aload_n 0, 1) := by decide +kernel
theorem d_M_same_49 : decode k_M_same 49 = .ok (.getfield 30, 3) := by decide +kernel
theorem d_M_same_52 : decode k_M_same 52 = .ok (.iload_n 1, 1) := by decide +kernel
theorem d_M_same_53 : decode k_M_same 53 = .ok (.iaload, 1) := by decide +kernel
theorem d_M_same_54 : decode k_M_same 54 = .ok (.aload_n 0, 1) := by decide +kernel
theorem d_M_same_55 : decode k_M_same 55 = .ok (.getfield 30, 3) := by decide +kernel
theorem d_M_same_58 : decode k_M_same 58 = .ok (.iload_n 2, 1) := by decide +kernel
theorem d_M_same_59 : decode k_M_same 59 = .ok (.iaload, 1) := by decide +kernel
theorem d_M_same_60 : decode k_M_same 60 = .ok (.if_icmp .ne 7, 3) := by decide +kernel
theorem d_M_same_63 : decode k_M_same 63 = .ok (.iconst 1, 1) := by decide +kernel
theorem d_M_same_64 : decode k_M_same 64 = .ok (.goto 4, 3) := by decide +kernel
theorem d_M_same_67 : decode k_M_same 67 = .ok (.iconst 0, 1) := by decide +kernel
theorem d_M_same_68 : decode k_M_same 68 = .ok (.istore_n 3, 1) := by decide +kernel
theorem d_M_same_69 : decode k_M_same 69 = .ok (.iconst 0, 1) := by decide +kernel
theorem d_M_same_70 : decode k_M_same 70 = .ok (.istore 4, 2) := by decide +kernel
theorem d_M_same_72 : decode k_M_same 72 = .ok (.iload 4, 2) := by decide +kernel
theorem d_M_same_74 : decode k_M_same 74 = .ok (.aload_n 0, 1) := by decide +kernel
theorem d_M_same_75 : decode k_M_same 75 = .ok (.getfield 23, 3) := by decide +kernel
theorem d_M_same_78 : decode k_M_same 78 = .ok (.iload_n 1, 1) := by decide +kernel
theorem d_M_same_79 : decode k_M_same 79 = .ok (.iaload, 1) := by decide +kernel
theorem d_M_same_80 : decode k_M_same 80 = .ok (.if_icmp .ge 48, 3) := by decide +kernel
theorem d_M_same_83 : decode k_M_same 83 = .ok (.iload_n 3, 1) := by decide +kernel
theorem d_M_same_84 : decode k_M_same 84 = .ok (.ifCond .eq 44, 3) := by decide +kernel
theorem d_M_same_87 : decode k_M_same 87 = .ok (.aload_n 0, 1) := by decide +kernel
theorem d_M_same_88 : decode k_M_same 88 = .ok (.getfield 20, 3) := by decide +kernel
theorem d_M_same_91 : decode k_M_same 91 = .ok (.sipush 4096, 3) := by decide +kernel
theorem d_M_same_94 : decode k_M_same 94 = .ok (.iload_n 1, 1) := by decide +kernel
theorem d_M_same_95 : decode k_M_same 95 = .ok (.imul, 1) := by decide +kernel
theorem d_M_same_96 : decode k_M_same 96 = .ok (.iload 4, 2) := by decide +kernel
theorem d_M_same_98 : decode k_M_same 98 = .ok (.iadd, 1) := by decide +kernel
theorem d_M_same_99 : decode k_M_same 99 = .ok (.iaload, 1) := by decide +kernel
theorem d_M_same_100 : decode k_M_same 100 = .ok (.aload_n 0, 1) := by decide +kernel
theorem d_M_same_101 : decode k_M_same 101 = .ok (.getfield 20, 3) := by decide +kernel
theorem d_M_same_104 : decode k_M_same 104 = .ok (.sipush 4096, 3) := by decide +kernel
theorem d_M_same_107 : decode k_M_same 107 = .ok (.iload_n 2, 1) := by decide +kernel
theorem d_M_same_108 : decode k_M_same 108 = .ok (.imul, 1) := by decide +kernel
theorem d_M_same_109 : decode k_M_same 109 = .ok (.iload 4, 2) := by decide +kernel
theorem d_M_same_111 : decode k_M_same 111 = .ok (.iadd, 1) := by decide +kernel
theorem d_M_same_112 : decode k_M_same 112 = .ok (.iaload, 1) := by decide +kernel
theorem d_M_same_113 : decode k_M_same 113 = .ok (.if_icmp .ne 7, 3) := by decide +kernel
theorem d_M_same_116 : decode k_M_same 116 = .ok (.iconst 1, 1) := by decide +kernel
theorem d_M_same_117 : decode k_M_same 117 = .ok (.goto 4, 3) := by decide +kernel
theorem d_M_same_120 : decode k_M_same 120 = .ok (.iconst 0, 1) := by decide +kernel
theorem d_M_same_121 : decode k_M_same 121 = .ok (.istore_n 3, 1) := by decide +kernel
theorem d_M_same_122 : decode k_M_same 122 = .ok (.iinc 4 1, 3) := by decide +kernel
theorem d_M_same_125 : decode k_M_same 125 = .ok (.goto (-53), 3) := by decide +kernel
theorem d_M_same_128 : decode k_M_same 128 = .ok (.iconst 0, 1) := by decide +kernel
theorem d_M_same_129 : decode k_M_same 129 = .ok (.istore 4, 2) := by decide +kernel
theorem d_M_same_131 : decode k_M_same 131 = .ok (.iload 4, 2) := by decide +kernel
theorem d_M_same_133 : decode k_M_same 133 = .ok (.iconst 2, 1) := by decide +kernel
theorem d_M_same_134 : decode k_M_same 134 = .ok (.aload_n 0, 1) := by decide +kernel
theorem d_M_same_135 : decode k_M_same 135 = .ok (.getfield 30, 3) := by decide +kernel
theorem d_M_same_138 : decode k_M_same 138 = .ok (.iload_n 1, 1) := by decide +kernel
theorem d_M_same_139 : decode k_M_same 139 = .ok (.iaload, 1) := by decide +kernel
theorem d_M_same_140 : decode k_M_same 140 = .ok (.imul, 1) := by decide +kernel
theorem d_M_same_141 : decode k_M_same 141 = .ok (.if_icmp .ge 48, 3) := by decide +kernel
theorem d_M_same_144 : decode k_M_same 144 = .ok (.iload_n 3, 1) := by decide +kernel
theorem d_M_same_145 : decode k_M_same 145 = .ok (.ifCond .eq 44, 3) := by decide +kernel
theorem d_M_same_148 : decode k_M_same 148 = .ok (.aload_n 0, 1) := by decide +kernel
theorem d_M_same_149 : decode k_M_same 149 = .ok (.getfield 27, 3) := by decide +kernel
theorem d_M_same_152 : decode k_M_same 152 = .ok (.sipush 8192, 3) := by decide +kernel
theorem d_M_same_155 : decode k_M_same 155 = .ok (.iload_n 1, 1) := by decide +kernel
theorem d_M_same_156 : decode k_M_same 156 = .ok (.imul, 1) := by decide +kernel
theorem d_M_same_157 : decode k_M_same 157 = .ok (.iload 4, 2) := by decide +kernel
theorem d_M_same_159 : decode k_M_same 159 = .ok (.iadd, 1) := by decide +kernel
theorem d_M_same_160 : decode k_M_same 160 = .ok (.iaload, 1) := by decide +kernel
theorem d_M_same_161 : decode k_M_same 161 = .ok (.aload_n 0, 1) := by decide +kernel
theorem d_M_same_162 : decode k_M_same 162 = .ok (.getfield 27, 3) := by decide +kernel
theorem d_M_same_165 : decode k_M_same 165 = .ok (.sipush 8192, 3) := by decide +kernel
theorem d_M_same_168 : decode k_M_same 168 = .ok (.iload_n 2, 1) := by decide +kernel
theorem d_M_same_169 : decode k_M_same 169 = .ok (.imul, 1) := by decide +kernel
theorem d_M_same_170 : decode k_M_same 170 = .ok (.iload 4, 2) := by decide +kernel
theorem d_M_same_172 : decode k_M_same 172 = .ok (.iadd, 1) := by decide +kernel
theorem d_M_same_173 : decode k_M_same 173 = .ok (.iaload, 1) := by decide +kernel
theorem d_M_same_174 : decode k_M_same 174 = .ok (.if_icmp .ne 7, 3) := by decide +kernel
theorem d_M_same_177 : decode k_M_same 177 = .ok (.iconst 1, 1) := by decide +kernel
theorem d_M_same_178 : decode k_M_same 178 = .ok (.goto 4, 3) := by decide +kernel
theorem d_M_same_181 : decode k_M_same 181 = .ok (.iconst 0, 1) := by decide +kernel
theorem d_M_same_182 : decode k_M_same 182 = .ok (.istore_n 3, 1) := by decide +kernel
theorem d_M_same_183 : decode k_M_same 183 = .ok (.iinc 4 1, 3) := by decide +kernel
theorem d_M_same_186 : decode k_M_same 186 = .ok (.goto (-55), 3) := by decide +kernel
theorem d_M_same_189 : decode k_M_same 189 = .ok (.iload_n 3, 1) := by decide +kernel
theorem d_M_same_190 : decode k_M_same 190 = .ok (.ireturn, 1) := by decide +kernel
theorem d_M_plan_0 : decode k_M_plan 0 = .ok (.aload_n 0, 1) := by decide +kernel
theorem d_M_plan_1 : decode k_M_plan 1 = .ok (.iconst 0, 1) := by decide +kernel
theorem d_M_plan_2 : decode k_M_plan 2 = .ok (.putfield 59, 3) := by decide +kernel
theorem d_M_plan_5 : decode k_M_plan 5 = .ok (.iload_n 1, 1) := by decide +kernel
theorem d_M_plan_6 : decode k_M_plan 6 = .ok (.invokestatic 186, 3) := by decide +kernel
theorem d_M_plan_9 : decode k_M_plan 9 = .ok (.ifCond .eq 34, 3) := by decide +kernel
theorem d_M_plan_12 : decode k_M_plan 12 = .ok (.iload_n 2, 1) := by decide +kernel
theorem d_M_plan_13 : decode k_M_plan 13 = .ok (.iconst 0, 1) := by decide +kernel
theorem d_M_plan_14 : decode k_M_plan 14 = .ok (.aload_n 0, 1) := by decide +kernel
theorem d_M_plan_15 : decode k_M_plan 15 = .ok (.getfield 23, 3) := by decide +kernel
theorem d_M_plan_18 : decode k_M_plan 18 = .ok (.iload_n 1, 1) := by decide +kernel
theorem d_M_plan_19 : decode k_M_plan 19 = .ok (.iaload, 1) := by decide +kernel
theorem d_M_plan_20 : decode k_M_plan 20 = .ok (.iconst 1, 1) := by decide +kernel
theorem d_M_plan_21 : decode k_M_plan 21 = .ok (.isub, 1) := by decide +kernel
theorem d_M_plan_22 : decode k_M_plan 22 = .ok (.invokestatic 62, 3) := by decide +kernel
theorem d_M_plan_25 : decode k_M_plan 25 = .ok (.ifCond .eq 18, 3) := by decide +kernel
theorem d_M_plan_28 : decode k_M_plan 28 = .ok (.aload_n 0, 1) := by decide +kernel
theorem d_M_plan_29 : decode k_M_plan 29 = .ok (.getfield 20, 3) := by decide +kernel
theorem d_M_plan_32 : decode k_M_plan 32 = .ok (.sipush 4096, 3) := by decide +kernel
theorem d_M_plan_35 : decode k_M_plan 35 = .ok (.iload_n 1, 1) := by decide +kernel
theorem d_M_plan_36 : decode k_M_plan 36 = .ok (.imul, 1) := by decide +kernel
theorem d_M_plan_37 : decode k_M_plan 37 = .ok (.iload_n 2, 1) := by decide +kernel
theorem d_M_plan_38 : decode k_M_plan 38 = .ok (.iadd, 1) := by decide +kernel
theorem d_M_plan_39 : decode k_M_plan 39 = .ok (.iaload, 1) := by decide +kernel
theorem d_M_plan_40 : decode k_M_plan 40 = .ok (.goto 8, 3) := by decide +kernel
theorem d_M_plan_43 : decode k_M_plan 43 = .ok (.aload_n 0, 1) := by decide +kernel
theorem d_M_plan_44 : decode k_M_plan 44 = .ok (.iconst 1, 1) := by decide +kernel
theorem d_M_plan_45 : decode k_M_plan 45 = .ok (.invokevirtual 69, 3) := by decide +kernel
theorem d_M_plan_48 : decode k_M_plan 48 = .ok (.ireturn, 1) := by decide +kernel
theorem d_M_ordinate_0 : decode k_M_ordinate 0 = .ok (.aload_n 0, 1) := by decide +kernel
theorem d_M_ordinate_1 : decode k_M_ordinate 1 = .ok (.iconst 0, 1) := by decide +kernel
theorem d_M_ordinate_2 : decode k_M_ordinate 2 = .ok (.putfield 59, 3) := by decide +kernel
theorem d_M_ordinate_5 : decode k_M_ordinate 5 = .ok (.iload_n 1, 1) := by decide +kernel
theorem d_M_ordinate_6 : decode k_M_ordinate 6 = .ok (.invokestatic 186, 3) := by decide +kernel
theorem d_M_ordinate_9 : decode k_M_ordinate 9 = .ok (.ifCond .eq 47, 3) := by decide +kernel
theorem d_M_ordinate_12 : decode k_M_ordinate 12 = .ok (.iload_n 2, 1) := by decide +kernel
theorem d_M_ordinate_13 : decode k_M_ordinate 13 = .ok (.iconst 0, 1) := by decide +kernel
theorem d_M_ordinate_14 : decode k_M_ordinate 14 = .ok (.aload_n 0, 1) := by decide +kernel
theorem d_M_ordinate_15 : decode k_M_ordinate 15 = .ok (.getfield 30, 3) := by decide +kernel
theorem d_M_ordinate_18 : decode k_M_ordinate 18 = .ok (.iload_n 1, 1) := by decide +kernel
theorem d_M_ordinate_19 : decode k_M_ordinate 19 = .ok (.iaload, 1) := by decide +kernel
theorem d_M_ordinate_20 : decode k_M_ordinate 20 = .ok (.iconst 1, 1) := by decide +kernel
theorem d_M_ordinate_21 : decode k_M_ordinate 21 = .ok (.isub, 1) := by decide +kernel
theorem d_M_ordinate_22 : decode k_M_ordinate 22 = .ok (.invokestatic 62, 3) := by decide +kernel
theorem d_M_ordinate_25 : decode k_M_ordinate 25 = .ok (.ifCond .eq 31, 3) := by decide +kernel
theorem d_M_ordinate_28 : decode k_M_ordinate 28 = .ok (.iload_n 3, 1) := by decide +kernel
theorem d_M_ordinate_29 : decode k_M_ordinate 29 = .ok (.iconst 0, 1) := by decide +kernel
theorem d_M_ordinate_30 : decode k_M_ordinate 30 = .ok (.iconst 1, 1) := by decide +kernel
theorem d_M_ordinate_31 : decode k_M_ordinate 31 = .ok (.invokestatic 62, 3) := by decide +kernel
theorem d_M_ordinate_34 : decode k_M_ordinate 34 = .ok (.ifCond .eq 22, 3) := by decide +kernel
theorem d_M_ordinate_37 : decode k_M_ordinate 37 = .ok (.aload_n 0, 1) := by decide +kernel
theorem d_M_ordinate_38 : decode k_M_ordinate 38 = .ok (.getfield 27, 3) := by decide +kernel
theorem d_M_ordinate_41 : decode k_M_ordinate 41 = .ok (.iconst 2, 1) := by decide +kernel
theorem d_M_ordinate_42 : decode k_M_ordinate 42 = .ok (.sipush 4096, 3) := by decide +kernel
theorem d_M_ordinate_45 : decode k_M_ordinate 45 = .ok (.iload_n 1, 1) := by decide +kernel
theorem d_M_ordinate_46 : decode k_M_ordinate 46 = .ok (.imul, 1) := by decide +kernel
theorem d_M_ordinate_47 : decode k_M_ordinate 47 = .ok (.iload_n 2, 1) := by decide +kernel
theorem d_M_ordinate_48 : decode k_M_ordinate 48 = .ok (.iadd, 1) := by decide +kernel
theorem d_M_ordinate_49 : decode k_M_ordinate 49 = .ok (.imul, 1) := by decide +kernel
theorem d_M_ordinate_50 : decode k_M_ordinate 50 = .ok (.iload_n 3, 1) := by decide +kernel
theorem d_M_ordinate_51 : decode k_M_ordinate 51 = .ok (.iadd, 1) := by decide +kernel
theorem d_M_ordinate_52 : decode k_M_ordinate 52 = .ok (.iaload, 1) := by decide +kernel
theorem d_M_ordinate_53 : decode k_M_ordinate 53 = .ok (.goto 8, 3) := by decide +kernel
theorem d_M_ordinate_56 : decode k_M_ordinate 56 = .ok (.aload_n 0, 1) := by decide +kernel
theorem d_M_ordinate_57 : decode k_M_ordinate 57 = .ok (.iconst 1, 1) := by decide +kernel
theorem d_M_ordinate_58 : decode k_M_ordinate 58 = .ok (.invokevirtual 69, 3) := by decide +kernel
theorem d_M_ordinate_61 : decode k_M_ordinate 61 = .ok (.ireturn, 1) := by decide +kernel
theorem d_M_byteAt_0 : decode k_M_byteAt 0 = .ok (.aload_n 0, 1) := by decide +kernel
theorem d_M_byteAt_1 : decode k_M_byteAt 1 = .ok (.iconst 0, 1) := by decide +kernel
theorem d_M_byteAt_2 : decode k_M_byteAt 2 = .ok (.putfield 59, 3) := by decide +kernel
theorem d_M_byteAt_5 : decode k_M_byteAt 5 = .ok (.iload_n 1, 1) := by decide +kernel
theorem d_M_byteAt_6 : decode k_M_byteAt 6 = .ok (.iconst 0, 1) := by decide +kernel
theorem d_M_byteAt_7 : decode k_M_byteAt 7 = .ok (.aload_n 0, 1) := by decide +kernel
theorem d_M_byteAt_8 : decode k_M_byteAt 8 = .ok (.getfield 217, 3) := by decide +kernel
theorem d_M_byteAt_11 : decode k_M_byteAt 11 = .ok (.iconst 1, 1) := by decide +kernel
theorem d_M_byteAt_12 : decode k_M_byteAt 12 = .ok (.isub, 1) := by decide +kernel
theorem d_M_byteAt_13 : decode k_M_byteAt 13 = .ok (.invokestatic 62, 3) := by decide +kernel
theorem d_M_byteAt_16 : decode k_M_byteAt 16 = .ok (.ifCond .eq 12, 3) := by decide +kernel
theorem d_M_byteAt_19 : decode k_M_byteAt 19 = .ok (.aload_n 0, 1) := by decide +kernel
theorem d_M_byteAt_20 : decode k_M_byteAt 20 = .ok (.getfield 34, 3) := by decide +kernel
theorem d_M_byteAt_23 : decode k_M_byteAt 23 = .ok (.iload_n 1, 1) := by decide +kernel
theorem d_M_byteAt_24 : decode k_M_byteAt 24 = .ok (.iaload, 1) := by decide +kernel
theorem d_M_byteAt_25 : decode k_M_byteAt 25 = .ok (.goto 8, 3) := by decide +kernel
theorem d_M_byteAt_28 : decode k_M_byteAt 28 = .ok (.aload_n 0, 1) := by decide +kernel
theorem d_M_byteAt_29 : decode k_M_byteAt 29 = .ok (.iconst 1, 1) := by decide +kernel
theorem d_M_byteAt_30 : decode k_M_byteAt 30 = .ok (.invokevirtual 69, 3) := by decide +kernel
theorem d_M_byteAt_33 : decode k_M_byteAt 33 = .ok (.ireturn, 1) := by decide +kernel
theorem d_M_count_0 : decode k_M_count 0 = .ok (.aload_n 0, 1) := by decide +kernel
theorem d_M_count_1 : decode k_M_count 1 = .ok (.iconst 0, 1) := by decide +kernel
theorem d_M_count_2 : decode k_M_count 2 = .ok (.putfield 59, 3) := by decide +kernel
theorem d_M_count_5 : decode k_M_count 5 = .ok (.iload_n 1, 1) := by decide +kernel
theorem d_M_count_6 : decode k_M_count 6 = .ok (.invokestatic 186, 3) := by decide +kernel
theorem d_M_count_9 : decode k_M_count 9 = .ok (.ifCond .eq 12, 3) := by decide +kernel
theorem d_M_count_12 : decode k_M_count 12 = .ok (.iload_n 2, 1) := by decide +kernel
theorem d_M_count_13 : decode k_M_count 13 = .ok (.iconst 0, 1) := by decide +kernel
theorem d_M_count_14 : decode k_M_count 14 = .ok (.iconst 3, 1) := by decide +kernel
theorem d_M_count_15 : decode k_M_count 15 = .ok (.invokestatic 62, 3) := by decide +kernel
theorem d_M_count_18 : decode k_M_count 18 = .ok (.ifCond .ne 9, 3) := by decide +kernel
theorem d_M_count_21 : decode k_M_count 21 = .ok (.aload_n 0, 1) := by decide +kernel
theorem d_M_count_22 : decode k_M_count 22 = .ok (.iconst 1, 1) := by decide +kernel
theorem d_M_count_23 : decode k_M_count 23 = .ok (.invokevirtual 69, 3) := by decide +kernel
theorem d_M_count_26 : decode k_M_count 26 = .ok (.ireturn, 1) := by decide +kernel
theorem d_M_count_27 : decode k_M_count 27 = .ok (.iload_n 2, 1) := by decide +kernel
theorem d_M_count_28 : decode k_M_count 28 = .ok (.ifCond .ne 12, 3) := by decide +kernel
theorem d_M_count_31 : decode k_M_count 31 = .ok (.aload_n 0, 1) := by decide +kernel
theorem d_M_count_32 : decode k_M_count 32 = .ok (.getfield 23, 3) := by decide +kernel
theorem d_M_count_35 : decode k_M_count 35 = .ok (.iload_n 1, 1) := by decide +kernel
theorem d_M_count_36 : decode k_M_count 36 = .ok (.iaload, 1) := by decide +kernel
theorem d_M_count_37 : decode k_M_count 37 = .ok (.goto 33, 3) := by decide +kernel
theorem d_M_count_40 : decode k_M_count 40 = .ok (.iload_n 2, 1) := by decide +kernel
theorem d_M_count_41 : decode k_M_count 41 = .ok (.iconst 1, 1) := by decide +kernel
theorem d_M_count_42 : decode k_M_count 42 = .ok (.if_icmp .ne 12, 3) := by decide +kernel
theorem d_M_count_45 : decode k_M_count 45 = .ok (.aload_n 0, 1) := by decide +kernel
theorem d_M_count_46 : decode k_M_count 46 = .ok (.getfield 30, 3) := by decide +kernel
theorem d_M_count_49 : decode k_M_count 49 = .ok (.iload_n 1, 1) := by decide +kernel
theorem d_M_count_50 : decode k_M_count 50 = .ok (.iaload, 1) := by decide +kernel
theorem d_M_count_51 : decode k_M_count 51 = .ok (.goto 19, 3) := by decide +kernel
theorem d_M_count_54 : decode k_M_count 54 = .ok (.iload_n 2, 1) := by decide +kernel
theorem d_M_count_55 : decode k_M_count 55 = .ok (.iconst 2, 1) := by decide +kernel
theorem d_M_count_56 : decode k_M_count 56 = .ok (.if_icmp .ne 10, 3) := by decide +kernel
theorem d_M_count_59 : decode k_M_count 59 = .ok (.aload_n 0, 1) := by decide +kernel
theorem d_M_count_60 : decode k_M_count 60 = .ok (.getfield 66, 3) := by decide +kernel
theorem d_M_count_63 : decode k_M_count 63 = .ok (.goto 7, 3) := by decide +kernel
theorem d_M_count_66 : decode k_M_count 66 = .ok (.aload_n 0, 1) := by decide +kernel
theorem d_M_count_67 : decode k_M_count 67 = .ok (.getfield 217, 3) := by decide +kernel
theorem d_M_count_70 : decode k_M_count 70 = .ok (.ireturn, 1) := by decide +kernel
