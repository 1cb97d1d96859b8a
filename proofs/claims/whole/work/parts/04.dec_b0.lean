theorem d_R_init_0 : decode k_R_init 0 = .ok (.aload_n 0, 1) := by decide +kernel
theorem d_R_init_1 : decode k_R_init 1 = .ok (.invokespecial 3, 3) := by decide +kernel
theorem d_R_init_4 : decode k_R_init 4 = .ok (.aload_n 0, 1) := by decide +kernel
theorem d_R_init_5 : decode k_R_init 5 = .ok (.new 9, 3) := by decide +kernel
theorem d_R_init_8 : decode k_R_init 8 = .ok (.dup, 1) := by decide +kernel
theorem d_R_init_9 : decode k_R_init 9 = .ok (.invokespecial 11, 3) := by decide +kernel
theorem d_R_init_12 : decode k_R_init 12 = .ok (.putfield 12, 3) := by decide +kernel
theorem d_R_init_15 : decode k_R_init 15 = .ok (.aload_n 0, 1) := by decide +kernel
theorem d_R_init_16 : decode k_R_init 16 = .ok (.aload_n 1, 1) := by decide +kernel
theorem d_R_init_17 : decode k_R_init 17 = .ok (.putfield 18, 3) := by decide +kernel
theorem d_R_init_20 : decode k_R_init 20 = .ok (.aload_n 0, 1) := by decide +kernel
theorem d_R_init_21 : decode k_R_init 21 = .ok (.iload_n 2, 1) := by decide +kernel
theorem d_R_init_22 : decode k_R_init 22 = .ok (.putfield 22, 3) := by decide +kernel
theorem d_R_init_25 : decode k_R_init 25 = .ok (.aload_n 0, 1) := by decide +kernel
theorem d_R_init_26 : decode k_R_init 26 = .ok (.aload_n 3, 1) := by decide +kernel
theorem d_R_init_27 : decode k_R_init 27 = .ok (.putfield 26, 3) := by decide +kernel
theorem d_R_init_30 : decode k_R_init 30 = .ok (.return_, 1) := by decide +kernel
theorem d_R_readText_0 : decode k_R_readText 0 = .ok (.aload_n 0, 1) := by decide +kernel
theorem d_R_readText_1 : decode k_R_readText 1 = .ok (.iload_n 1, 1) := by decide +kernel
theorem d_R_readText_2 : decode k_R_readText 2 = .ok (.aload_n 0, 1) := by decide +kernel
theorem d_R_readText_3 : decode k_R_readText 3 = .ok (.getfield 18, 3) := by decide +kernel
theorem d_R_readText_6 : decode k_R_readText 6 = .ok (.arraylength, 1) := by decide +kernel
theorem d_R_readText_7 : decode k_R_readText 7 = .ok (.invokestatic 30, 3) := by decide +kernel
theorem d_R_readText_10 : decode k_R_readText 10 = .ok (.putfield 36, 3) := by decide +kernel
theorem d_R_readText_13 : decode k_R_readText 13 = .ok (.aload_n 0, 1) := by decide +kernel
theorem d_R_readText_14 : decode k_R_readText 14 = .ok (.iconst 0, 1) := by decide +kernel
theorem d_R_readText_15 : decode k_R_readText 15 = .ok (.putfield 39, 3) := by decide +kernel
theorem d_R_readText_18 : decode k_R_readText 18 = .ok (.aload_n 0, 1) := by decide +kernel
theorem d_R_readText_19 : decode k_R_readText 19 = .ok (.iconst 0, 1) := by decide +kernel
theorem d_R_readText_20 : decode k_R_readText 20 = .ok (.putfield 42, 3) := by decide +kernel
theorem d_R_readText_23 : decode k_R_readText 23 = .ok (.aload_n 0, 1) := by decide +kernel
theorem d_R_readText_24 : decode k_R_readText 24 = .ok (.iconst 0, 1) := by decide +kernel
theorem d_R_readText_25 : decode k_R_readText 25 = .ok (.putfield 45, 3) := by decide +kernel
theorem d_R_readText_28 : decode k_R_readText 28 = .ok (.aload_n 0, 1) := by decide +kernel
theorem d_R_readText_29 : decode k_R_readText 29 = .ok (.getfield 26, 3) := by decide +kernel
theorem d_R_readText_32 : decode k_R_readText 32 = .ok (.invokevirtual 48, 3) := by decide +kernel
theorem d_R_readText_35 : decode k_R_readText 35 = .ok (.aload_n 0, 1) := by decide +kernel
theorem d_R_readText_36 : decode k_R_readText 36 = .ok (.getfield 12, 3) := by decide +kernel
theorem d_R_readText_39 : decode k_R_readText 39 = .ok (.iconst (-1), 1) := by decide +kernel
theorem d_R_readText_40 : decode k_R_readText 40 = .ok (.invokevirtual 53, 3) := by decide +kernel
theorem d_R_readText_43 : decode k_R_readText 43 = .ok (.iconst 1, 1) := by decide +kernel
theorem d_R_readText_44 : decode k_R_readText 44 = .ok (.istore_n 2, 1) := by decide +kernel
theorem d_R_readText_45 : decode k_R_readText 45 = .ok (.iconst 0, 1) := by decide +kernel
theorem d_R_readText_46 : decode k_R_readText 46 = .ok (.istore_n 3, 1) := by decide +kernel
theorem d_R_readText_47 : decode k_R_readText 47 = .ok (.iload_n 2, 1) := by decide +kernel
theorem d_R_readText_48 : decode k_R_readText 48 = .ok (.ifCond .eq 37, 3) := by decide +kernel
theorem d_R_readText_51 : decode k_R_readText 51 = .ok (.iload_n 3, 1) := by decide +kernel
theorem d_R_readText_52 : decode k_R_readText 52 = .ok (.aload_n 0, 1) := by decide +kernel
theorem d_R_readText_53 : decode k_R_readText 53 = .ok (.getfield 36, 3) := by decide +kernel
theorem d_R_readText_56 : decode k_R_readText 56 = .ok (.if_icmp .gt 29, 3) := by decide +kernel
theorem d_R_readText_59 : decode k_R_readText 59 = .ok (.aload_n 0, 1) := by decide +kernel
theorem d_R_readText_60 : decode k_R_readText 60 = .ok (.invokevirtual 57, 3) := by decide +kernel
theorem d_R_readText_63 : decode k_R_readText 63 = .ok (.ifCond .ne 10, 3) := by decide +kernel
theorem d_R_readText_66 : decode k_R_readText 66 = .ok (.aload_n 0, 1) := by decide +kernel
theorem d_R_readText_67 : decode k_R_readText 67 = .ok (.invokevirtual 61, 3) := by decide +kernel
theorem d_R_readText_70 : decode k_R_readText 70 = .ok (.ifCond .eq 7, 3) := by decide +kernel
theorem d_R_readText_73 : decode k_R_readText 73 = .ok (.iconst 1, 1) := by decide +kernel
theorem d_R_readText_74 : decode k_R_readText 74 = .ok (.goto 4, 3) := by decide +kernel
theorem d_R_readText_77 : decode k_R_readText 77 = .ok (.iconst 0, 1) := by decide +kernel
theorem d_R_readText_78 : decode k_R_readText 78 = .ok (.istore_n 2, 1) := by decide +kernel
theorem d_R_readText_79 : decode k_R_readText 79 = .ok (.iinc 3 1, 3) := by decide +kernel
theorem d_R_readText_82 : decode k_R_readText 82 = .ok (.goto (-35), 3) := by decide +kernel
theorem d_R_readText_85 : decode k_R_readText 85 = .ok (.aload_n 0, 1) := by decide +kernel
theorem d_R_readText_86 : decode k_R_readText 86 = .ok (.invokevirtual 64, 3) := by decide +kernel
theorem d_R_readText_89 : decode k_R_readText 89 = .ok (.aload_n 0, 1) := by decide +kernel
theorem d_R_readText_90 : decode k_R_readText 90 = .ok (.getfield 39, 3) := by decide +kernel
theorem d_R_readText_93 : decode k_R_readText 93 = .ok (.aload_n 0, 1) := by decide +kernel
theorem d_R_readText_94 : decode k_R_readText 94 = .ok (.getfield 36, 3) := by decide +kernel
theorem d_R_readText_97 : decode k_R_readText 97 = .ok (.if_icmp .ge 13, 3) := by decide +kernel
theorem d_R_readText_100 : decode k_R_readText 100 = .ok (.aload_n 0, 1) := by decide +kernel
theorem d_R_readText_101 : decode k_R_readText 101 = .ok (.bipush 8, 2) := by decide +kernel
theorem d_R_readText_103 : decode k_R_readText 103 = .ok (.aload_n 0, 1) := by decide +kernel
theorem d_R_readText_104 : decode k_R_readText 104 = .ok (.getfield 39, 3) := by decide +kernel
theorem d_R_readText_107 : decode k_R_readText 107 = .ok (.invokevirtual 67, 3) := by decide +kernel
theorem d_R_readText_110 : decode k_R_readText 110 = .ok (.return_, 1) := by decide +kernel
theorem d_R_opensItem_0 : decode k_R_opensItem 0 = .ok (.aload_n 0, 1) := by decide +kernel
theorem d_R_opensItem_1 : decode k_R_opensItem 1 = .ok (.invokevirtual 64, 3) := by decide +kernel
theorem d_R_opensItem_4 : decode k_R_opensItem 4 = .ok (.aload_n 0, 1) := by decide +kernel
theorem d_R_opensItem_5 : decode k_R_opensItem 5 = .ok (.getfield 26, 3) := by decide +kernel
theorem d_R_opensItem_8 : decode k_R_opensItem 8 = .ok (.aload_n 0, 1) := by decide +kernel
theorem d_R_opensItem_9 : decode k_R_opensItem 9 = .ok (.getfield 12, 3) := by decide +kernel
theorem d_R_opensItem_12 : decode k_R_opensItem 12 = .ok (.invokevirtual 71, 3) := by decide +kernel
theorem d_R_opensItem_15 : decode k_R_opensItem 15 = .ok (.invokevirtual 75, 3) := by decide +kernel
theorem d_R_opensItem_18 : decode k_R_opensItem 18 = .ok (.aload_n 0, 1) := by decide +kernel
theorem d_R_opensItem_19 : decode k_R_opensItem 19 = .ok (.getfield 12, 3) := by decide +kernel
theorem d_R_opensItem_22 : decode k_R_opensItem 22 = .ok (.invokevirtual 78, 3) := by decide +kernel
theorem d_R_opensItem_25 : decode k_R_opensItem 25 = .ok (.istore_n 1, 1) := by decide +kernel
theorem d_R_opensItem_26 : decode k_R_opensItem 26 = .ok (.iload_n 1, 1) := by decide +kernel
theorem d_R_opensItem_27 : decode k_R_opensItem 27 = .ok (.tableswitch 128 0 7 #[45, 128, 128, 123, 65, 108, 108, 45], 45) := by decide +kernel
theorem d_R_opensItem_72 : decode k_R_opensItem 72 = .ok (.aload_n 0, 1) := by decide +kernel
theorem d_R_opensItem_73 : decode k_R_opensItem 73 = .ok (.invokevirtual 81, 3) := by decide +kernel
theorem d_R_opensItem_76 : decode k_R_opensItem 76 = .ok (.istore_n 2, 1) := by decide +kernel
theorem d_R_opensItem_77 : decode k_R_opensItem 77 = .ok (.aload_n 0, 1) := by decide +kernel
theorem d_R_opensItem_78 : decode k_R_opensItem 78 = .ok (.invokevirtual 64, 3) := by decide +kernel
theorem d_R_opensItem_81 : decode k_R_opensItem 81 = .ok (.aload_n 0, 1) := by decide +kernel
theorem d_R_opensItem_82 : decode k_R_opensItem 82 = .ok (.iload_n 2, 1) := by decide +kernel
theorem d_R_opensItem_83 : decode k_R_opensItem 83 = .ok (.invokevirtual 84, 3) := by decide +kernel
theorem d_R_opensItem_86 : decode k_R_opensItem 86 = .ok (.aload_n 0, 1) := by decide +kernel
theorem d_R_opensItem_87 : decode k_R_opensItem 87 = .ok (.iload_n 2, 1) := by decide +kernel
theorem d_R_opensItem_88 : decode k_R_opensItem 88 = .ok (.invokevirtual 87, 3) := by decide +kernel
theorem d_R_opensItem_91 : decode k_R_opensItem 91 = .ok (.ireturn, 1) := by decide +kernel
theorem d_R_opensItem_92 : decode k_R_opensItem 92 = .ok (.aload_n 0, 1) := by decide +kernel
theorem d_R_opensItem_93 : decode k_R_opensItem 93 = .ok (.iconst 1, 1) := by decide +kernel
theorem d_R_opensItem_94 : decode k_R_opensItem 94 = .ok (.invokevirtual 84, 3) := by decide +kernel
theorem d_R_opensItem_97 : decode k_R_opensItem 97 = .ok (.aload_n 0, 1) := by decide +kernel
theorem d_R_opensItem_98 : decode k_R_opensItem 98 = .ok (.invokevirtual 91, 3) := by decide +kernel
theorem d_R_opensItem_101 : decode k_R_opensItem 101 = .ok (.invokestatic 94, 3) := by decide +kernel
theorem d_R_opensItem_104 : decode k_R_opensItem 104 = .ok (.ifCond .eq 25, 3) := by decide +kernel
theorem d_R_opensItem_107 : decode k_R_opensItem 107 = .ok (.aload_n 0, 1) := by decide +kernel
theorem d_R_opensItem_108 : decode k_R_opensItem 108 = .ok (.getfield 26, 3) := by decide +kernel
theorem d_R_opensItem_111 : decode k_R_opensItem 111 = .ok (.aload_n 0, 1) := by decide +kernel
theorem d_R_opensItem_112 : decode k_R_opensItem 112 = .ok (.getfield 26, 3) := by decide +kernel
theorem d_R_opensItem_115 : decode k_R_opensItem 115 = .ok (.getfield 97, 3) := by decide +kernel
theorem d_R_opensItem_118 : decode k_R_opensItem 118 = .ok (.iconst 1, 1) := by decide +kernel
theorem d_R_opensItem_119 : decode k_R_opensItem 119 = .ok (.isub, 1) := by decide +kernel
theorem d_R_opensItem_120 : decode k_R_opensItem 120 = .ok (.invokevirtual 75, 3) := by decide +kernel
theorem d_R_opensItem_123 : decode k_R_opensItem 123 = .ok (.aload_n 0, 1) := by decide +kernel
theorem d_R_opensItem_124 : decode k_R_opensItem 124 = .ok (.invokevirtual 100, 3) := by decide +kernel
theorem d_R_opensItem_127 : decode k_R_opensItem 127 = .ok (.iconst 0, 1) := by decide +kernel
theorem d_R_opensItem_128 : decode k_R_opensItem 128 = .ok (.ireturn, 1) := by decide +kernel
theorem d_R_opensItem_129 : decode k_R_opensItem 129 = .ok (.aload_n 0, 1) := by decide +kernel
theorem d_R_opensItem_130 : decode k_R_opensItem 130 = .ok (.iconst 1, 1) := by decide +kernel
theorem d_R_opensItem_131 : decode k_R_opensItem 131 = .ok (.invokevirtual 87, 3) := by decide +kernel
theorem d_R_opensItem_134 : decode k_R_opensItem 134 = .ok (.ireturn, 1) := by decide +kernel
theorem d_R_opensItem_135 : decode k_R_opensItem 135 = .ok (.aload_n 0, 1) := by decide +kernel
theorem d_R_opensItem_136 : decode k_R_opensItem 136 = .ok (.iload_n 1, 1) := by decide +kernel
theorem d_R_opensItem_137 : decode k_R_opensItem 137 = .ok (.iconst 3, 1) := by decide +kernel
theorem d_R_opensItem_138 : decode k_R_opensItem 138 = .ok (.isub, 1) := by decide +kernel
theorem d_R_opensItem_139 : decode k_R_opensItem 139 = .ok (.invokevirtual 84, 3) := by decide +kernel
theorem d_R_opensItem_142 : decode k_R_opensItem 142 = .ok (.aload_n 0, 1) := by decide +kernel
theorem d_R_opensItem_143 : decode k_R_opensItem 143 = .ok (.iload_n 1, 1) := by decide +kernel
theorem d_R_opensItem_144 : decode k_R_opensItem 144 = .ok (.iconst 3, 1) := by decide +kernel
theorem d_R_opensItem_145 : decode k_R_opensItem 145 = .ok (.isub, 1) := by decide +kernel
theorem d_R_opensItem_146 : decode k_R_opensItem 146 = .ok (.invokevirtual 87, 3) := by decide +kernel
theorem d_R_opensItem_149 : decode k_R_opensItem 149 = .ok (.ireturn, 1) := by decide +kernel
theorem d_R_opensItem_150 : decode k_R_opensItem 150 = .ok (.aload_n 0, 1) := by decide +kernel
theorem d_R_opensItem_151 : decode k_R_opensItem 151 = .ok (.invokevirtual 103, 3) := by decide +kernel
theorem d_R_opensItem_154 : decode k_R_opensItem 154 = .ok (.ireturn, 1) := by decide +kernel
theorem d_R_opensItem_155 : decode k_R_opensItem 155 = .ok (.aload_n 0, 1) := by decide +kernel
theorem d_R_opensItem_156 : decode k_R_opensItem 156 = .ok (.invokevirtual 100, 3) := by decide +kernel
theorem d_R_opensItem_159 : decode k_R_opensItem 159 = .ok (.iconst 0, 1) := by decide +kernel
theorem d_R_opensItem_160 : decode k_R_opensItem 160 = .ok (.ireturn, 1) := by decide +kernel
theorem d_R_goesOn_0 : decode k_R_goesOn 0 = .ok (.iconst 0, 1) := by decide +kernel
theorem d_R_goesOn_1 : decode k_R_goesOn 1 = .ok (.istore_n 1, 1) := by decide +kernel
theorem d_R_goesOn_2 : decode k_R_goesOn 2 = .ok (.iload_n 1, 1) := by decide +kernel
theorem d_R_goesOn_3 : decode k_R_goesOn 3 = .ok (.bipush 54, 2) := by decide +kernel
theorem d_R_goesOn_5 : decode k_R_goesOn 5 = .ok (.if_icmp .ge 68, 3) := by decide +kernel
theorem d_R_goesOn_8 : decode k_R_goesOn 8 = .ok (.aload_n 0, 1) := by decide +kernel
theorem d_R_goesOn_9 : decode k_R_goesOn 9 = .ok (.getfield 12, 3) := by decide +kernel
theorem d_R_goesOn_12 : decode k_R_goesOn 12 = .ok (.getfield 106, 3) := by decide +kernel
theorem d_R_goesOn_15 : decode k_R_goesOn 15 = .ok (.ifCond .le 58, 3) := by decide +kernel
theorem d_R_goesOn_18 : decode k_R_goesOn 18 = .ok (.aload_n 0, 1) := by decide +kernel
theorem d_R_goesOn_19 : decode k_R_goesOn 19 = .ok (.invokevirtual 64, 3) := by decide +kernel
theorem d_R_goesOn_22 : decode k_R_goesOn 22 = .ok (.aload_n 0, 1) := by decide +kernel
theorem d_R_goesOn_23 : decode k_R_goesOn 23 = .ok (.invokevirtual 91, 3) := by decide +kernel
theorem d_R_goesOn_26 : decode k_R_goesOn 26 = .ok (.bipush 44, 2) := by decide +kernel
theorem d_R_goesOn_28 : decode k_R_goesOn 28 = .ok (.if_icmp .ne 26, 3) := by decide +kernel
theorem d_R_goesOn_31 : decode k_R_goesOn 31 = .ok (.aload_n 0, 1) := by decide +kernel
theorem d_R_goesOn_32 : decode k_R_goesOn 32 = .ok (.getfield 12, 3) := by decide +kernel
theorem d_R_goesOn_35 : decode k_R_goesOn 35 = .ok (.invokevirtual 78, 3) := by decide +kernel
theorem d_R_goesOn_38 : decode k_R_goesOn 38 = .ok (.iconst 1, 1) := by decide +kernel
theorem d_R_goesOn_39 : decode k_R_goesOn 39 = .ok (.if_icmp .eq 15, 3) := by decide +kernel
theorem d_R_goesOn_42 : decode k_R_goesOn 42 = .ok (.aload_n 0, 1) := by decide +kernel
theorem d_R_goesOn_43 : decode k_R_goesOn 43 = .ok (.dup, 1) := by decide +kernel
theorem d_R_goesOn_44 : decode k_R_goesOn 44 = .ok (.getfield 39, 3) := by decide +kernel
theorem d_R_goesOn_47 : decode k_R_goesOn 47 = .ok (.iconst 1, 1) := by decide +kernel
theorem d_R_goesOn_48 : decode k_R_goesOn 48 = .ok (.iadd, 1) := by decide +kernel
theorem d_R_goesOn_49 : decode k_R_goesOn 49 = .ok (.putfield 39, 3) := by decide +kernel
theorem d_R_goesOn_52 : decode k_R_goesOn 52 = .ok (.iconst 1, 1) := by decide +kernel
theorem d_R_goesOn_53 : decode k_R_goesOn 53 = .ok (.ireturn, 1) := by decide +kernel
theorem d_R_goesOn_54 : decode k_R_goesOn 54 = .ok (.aload_n 0, 1) := by decide +kernel
theorem d_R_goesOn_55 : decode k_R_goesOn 55 = .ok (.bipush 41, 2) := by decide +kernel
theorem d_R_goesOn_57 : decode k_R_goesOn 57 = .ok (.invokevirtual 109, 3) := by decide +kernel
theorem d_R_goesOn_60 : decode k_R_goesOn 60 = .ok (.aload_n 0, 1) := by decide +kernel
theorem d_R_goesOn_61 : decode k_R_goesOn 61 = .ok (.getfield 12, 3) := by decide +kernel
theorem d_R_goesOn_64 : decode k_R_goesOn 64 = .ok (.invokevirtual 112, 3) := by decide +kernel
theorem d_R_goesOn_67 : decode k_R_goesOn 67 = .ok (.iinc 1 1, 3) := by decide +kernel
theorem d_R_goesOn_70 : decode k_R_goesOn 70 = .ok (.goto (-68), 3) := by decide +kernel
theorem d_R_goesOn_73 : decode k_R_goesOn 73 = .ok (.iconst 0, 1) := by decide +kernel
theorem d_R_goesOn_74 : decode k_R_goesOn 74 = .ok (.ireturn, 1) := by decide +kernel
theorem d_R_readKind_0 : decode k_R_readKind 0 = .ok (.aload_n 0, 1) := by decide +kernel
theorem d_R_readKind_1 : decode k_R_readKind 1 = .ok (.getfield 39, 3) := by decide +kernel
theorem d_R_readKind_4 : decode k_R_readKind 4 = .ok (.istore_n 1, 1) := by decide +kernel
theorem d_R_readKind_5 : decode k_R_readKind 5 = .ok (.aload_n 0, 1) := by decide +kernel
theorem d_R_readKind_6 : decode k_R_readKind 6 = .ok (.invokevirtual 91, 3) := by decide +kernel
theorem d_R_readKind_9 : decode k_R_readKind 9 = .ok (.invokestatic 115, 3) := by decide +kernel
theorem d_R_readKind_12 : decode k_R_readKind 12 = .ok (.ifCond .ne 7, 3) := by decide +kernel
theorem d_R_readKind_15 : decode k_R_readKind 15 = .ok (.aload_n 0, 1) := by decide +kernel
theorem d_R_readKind_16 : decode k_R_readKind 16 = .ok (.invokevirtual 118, 3) := by decide +kernel
theorem d_R_readKind_19 : decode k_R_readKind 19 = .ok (.aload_n 0, 1) := by decide +kernel
theorem d_R_readKind_20 : decode k_R_readKind 20 = .ok (.invokevirtual 121, 3) := by decide +kernel
theorem d_R_readKind_23 : decode k_R_readKind 23 = .ok (.aload_n 0, 1) := by decide +kernel
theorem d_R_readKind_24 : decode k_R_readKind 24 = .ok (.iload_n 1, 1) := by decide +kernel
theorem d_R_readKind_25 : decode k_R_readKind 25 = .ok (.invokevirtual 124, 3) := by decide +kernel
theorem d_R_readKind_28 : decode k_R_readKind 28 = .ok (.istore_n 2, 1) := by decide +kernel
theorem d_R_readKind_29 : decode k_R_readKind 29 = .ok (.iload_n 2, 1) := by decide +kernel
theorem d_R_readKind_30 : decode k_R_readKind 30 = .ok (.iconst (-1), 1) := by decide +kernel
theorem d_R_readKind_31 : decode k_R_readKind 31 = .ok (.if_icmp .ne 9, 3) := by decide +kernel
theorem d_R_readKind_34 : decode k_R_readKind 34 = .ok (.aload_n 0, 1) := by decide +kernel
theorem d_R_readKind_35 : decode k_R_readKind 35 = .ok (.iconst 2, 1) := by decide +kernel
theorem d_R_readKind_36 : decode k_R_readKind 36 = .ok (.iload_n 1, 1) := by decide +kernel
theorem d_R_readKind_37 : decode k_R_readKind 37 = .ok (.invokevirtual 67, 3) := by decide +kernel
theorem d_R_readKind_40 : decode k_R_readKind 40 = .ok (.iload_n 2, 1) := by decide +kernel
theorem d_R_readKind_41 : decode k_R_readKind 41 = .ok (.bipush 7, 2) := by decide +kernel
theorem d_R_readKind_43 : decode k_R_readKind 43 = .ok (.if_icmp .ne 22, 3) := by decide +kernel
theorem d_R_readKind_46 : decode k_R_readKind 46 = .ok (.aload_n 0, 1) := by decide +kernel
theorem d_R_readKind_47 : decode k_R_readKind 47 = .ok (.getfield 12, 3) := by decide +kernel
theorem d_R_readKind_50 : decode k_R_readKind 50 = .ok (.getfield 106, 3) := by decide +kernel
theorem d_R_readKind_53 : decode k_R_readKind 53 = .ok (.bipush 50, 2) := by decide +kernel
theorem d_R_readKind_55 : decode k_R_readKind 55 = .ok (.if_icmp .lt 10, 3) := by decide +kernel
theorem d_R_readKind_58 : decode k_R_readKind 58 = .ok (.aload_n 0, 1) := by decide +kernel
theorem d_R_readKind_59 : decode k_R_readKind 59 = .ok (.bipush 6, 2) := by decide +kernel
theorem d_R_readKind_61 : decode k_R_readKind 61 = .ok (.iload_n 1, 1) := by decide +kernel
theorem d_R_readKind_62 : decode k_R_readKind 62 = .ok (.invokevirtual 67, 3) := by decide +kernel
theorem d_R_readKind_65 : decode k_R_readKind 65 = .ok (.iload_n 2, 1) := by decide +kernel
theorem d_R_readKind_66 : decode k_R_readKind 66 = .ok (.ireturn, 1) := by decide +kernel
theorem d_R_keepKind_0 : decode k_R_keepKind 0 = .ok (.aload_n 0, 1) := by decide +kernel
theorem d_R_keepKind_1 : decode k_R_keepKind 1 = .ok (.getfield 26, 3) := by decide +kernel
theorem d_R_keepKind_4 : decode k_R_keepKind 4 = .ok (.iconst 2, 1) := by decide +kernel
theorem d_R_keepKind_5 : decode k_R_keepKind 5 = .ok (.invokevirtual 128, 3) := by decide +kernel
theorem d_R_keepKind_8 : decode k_R_keepKind 8 = .ok (.ifCond .ne 13, 3) := by decide +kernel
theorem d_R_keepKind_11 : decode k_R_keepKind 11 = .ok (.aload_n 0, 1) := by decide +kernel
theorem d_R_keepKind_12 : decode k_R_keepKind 12 = .ok (.bipush 7, 2) := by decide +kernel
theorem d_R_keepKind_14 : decode k_R_keepKind 14 = .ok (.aload_n 0, 1) := by decide +kernel
theorem d_R_keepKind_15 : decode k_R_keepKind 15 = .ok (.getfield 39, 3) := by decide +kernel
theorem d_R_keepKind_18 : decode k_R_keepKind 18 = .ok (.invokevirtual 67, 3) := by decide +kernel
theorem d_R_keepKind_21 : decode k_R_keepKind 21 = .ok (.aload_n 0, 1) := by decide +kernel
theorem d_R_keepKind_22 : decode k_R_keepKind 22 = .ok (.getfield 26, 3) := by decide +kernel
theorem d_R_keepKind_25 : decode k_R_keepKind 25 = .ok (.iload_n 1, 1) := by decide +kernel
theorem d_R_keepKind_26 : decode k_R_keepKind 26 = .ok (.invokevirtual 131, 3) := by decide +kernel
theorem d_R_keepKind_29 : decode k_R_keepKind 29 = .ok (.aload_n 0, 1) := by decide +kernel
theorem d_R_keepKind_30 : decode k_R_keepKind 30 = .ok (.getfield 26, 3) := by decide +kernel
theorem d_R_keepKind_33 : decode k_R_keepKind 33 = .ok (.iconst 0, 1) := by decide +kernel
theorem d_R_keepKind_34 : decode k_R_keepKind 34 = .ok (.invokevirtual 131, 3) := by decide +kernel
theorem d_R_keepKind_37 : decode k_R_keepKind 37 = .ok (.return_, 1) := by decide +kernel
theorem d_R_opensBracket_0 : decode k_R_opensBracket 0 = .ok (.aload_n 0, 1) := by decide +kernel
theorem d_R_opensBracket_1 : decode k_R_opensBracket 1 = .ok (.invokevirtual 91, 3) := by decide +kernel
theorem d_R_opensBracket_4 : decode k_R_opensBracket 4 = .ok (.invokestatic 115, 3) := by decide +kernel
theorem d_R_opensBracket_7 : decode k_R_opensBracket 7 = .ok (.ifCond .eq 9, 3) := by decide +kernel
theorem d_R_opensBracket_10 : decode k_R_opensBracket 10 = .ok (.aload_n 0, 1) := by decide +kernel
theorem d_R_opensBracket_11 : decode k_R_opensBracket 11 = .ok (.invokevirtual 134, 3) := by decide +kernel
theorem d_R_opensBracket_14 : decode k_R_opensBracket 14 = .ok (.iconst 0, 1) := by decide +kernel
theorem d_R_opensBracket_15 : decode k_R_opensBracket 15 = .ok (.ireturn, 1) := by decide +kernel
theorem d_R_opensBracket_16 : decode k_R_opensBracket 16 = .ok (.aload_n 0, 1) := by decide +kernel
theorem d_R_opensBracket_17 : decode k_R_opensBracket 17 = .ok (.bipush 40, 2) := by decide +kernel
theorem d_R_opensBracket_19 : decode k_R_opensBracket 19 = .ok (.invokevirtual 109, 3) := by decide +kernel
theorem d_R_opensBracket_22 : decode k_R_opensBracket 22 = .ok (.aload_n 0, 1) := by decide +kernel
theorem d_R_opensBracket_23 : decode k_R_opensBracket 23 = .ok (.getfield 12, 3) := by decide +kernel
theorem d_R_opensBracket_26 : decode k_R_opensBracket 26 = .ok (.iload_n 1, 1) := by decide +kernel
theorem d_R_opensBracket_27 : decode k_R_opensBracket 27 = .ok (.aload_n 0, 1) := by decide +kernel
theorem d_R_opensBracket_28 : decode k_R_opensBracket 28 = .ok (.getfield 26, 3) := by decide +kernel
theorem d_R_opensBracket_31 : decode k_R_opensBracket 31 = .ok (.getfield 97, 3) := by decide +kernel
theorem d_R_opensBracket_34 : decode k_R_opensBracket 34 = .ok (.iconst 1, 1) := by decide +kernel
theorem d_R_opensBracket_35 : decode k_R_opensBracket 35 = .ok (.isub, 1) := by decide +kernel
theorem d_R_opensBracket_36 : decode k_R_opensBracket 36 = .ok (.invokevirtual 137, 3) := by decide +kernel
theorem d_R_opensBracket_39 : decode k_R_opensBracket 39 = .ok (.iconst 1, 1) := by decide +kernel
theorem d_R_opensBracket_40 : decode k_R_opensBracket 40 = .ok (.ireturn, 1) := by decide +kernel
theorem d_R_opensRing_0 : decode k_R_opensRing 0 = .ok (.aload_n 0, 1) := by decide +kernel
theorem d_R_opensRing_1 : decode k_R_opensRing 1 = .ok (.getfield 26, 3) := by decide +kernel
theorem d_R_opensRing_4 : decode k_R_opensRing 4 = .ok (.iconst 1, 1) := by decide +kernel
theorem d_R_opensRing_5 : decode k_R_opensRing 5 = .ok (.invokevirtual 128, 3) := by decide +kernel
theorem d_R_opensRing_8 : decode k_R_opensRing 8 = .ok (.ifCond .ne 13, 3) := by decide +kernel
theorem d_R_opensRing_11 : decode k_R_opensRing 11 = .ok (.aload_n 0, 1) := by decide +kernel
theorem d_R_opensRing_12 : decode k_R_opensRing 12 = .ok (.bipush 7, 2) := by decide +kernel
theorem d_R_opensRing_14 : decode k_R_opensRing 14 = .ok (.aload_n 0, 1) := by decide +kernel
theorem d_R_opensRing_15 : decode k_R_opensRing 15 = .ok (.getfield 39, 3) := by decide +kernel
theorem d_R_opensRing_18 : decode k_R_opensRing 18 = .ok (.invokevirtual 67, 3) := by decide +kernel
theorem d_R_opensRing_21 : decode k_R_opensRing 21 = .ok (.aload_n 0, 1) := by decide +kernel
theorem d_R_opensRing_22 : decode k_R_opensRing 22 = .ok (.getfield 26, 3) := by decide +kernel
theorem d_R_opensRing_25 : decode k_R_opensRing 25 = .ok (.iconst 0, 1) := by decide +kernel
theorem d_R_opensRing_26 : decode k_R_opensRing 26 = .ok (.invokevirtual 131, 3) := by decide +kernel
theorem d_R_opensRing_29 : decode k_R_opensRing 29 = .ok (.aload_n 0, 1) := by decide +kernel
theorem d_R_opensRing_30 : decode k_R_opensRing 30 = .ok (.bipush 40, 2) := by decide +kernel
theorem d_R_opensRing_32 : decode k_R_opensRing 32 = .ok (.invokevirtual 109, 3) := by decide +kernel
theorem d_R_opensRing_35 : decode k_R_opensRing 35 = .ok (.aload_n 0, 1) := by decide +kernel
theorem d_R_opensRing_36 : decode k_R_opensRing 36 = .ok (.getfield 12, 3) := by decide +kernel
theorem d_R_opensRing_39 : decode k_R_opensRing 39 = .ok (.bipush 8, 2) := by decide +kernel
theorem d_R_opensRing_41 : decode k_R_opensRing 41 = .ok (.aload_n 0, 1) := by decide +kernel
theorem d_R_opensRing_42 : decode k_R_opensRing 42 = .ok (.getfield 26, 3) := by decide +kernel
theorem d_R_opensRing_45 : decode k_R_opensRing 45 = .ok (.getfield 97, 3) := by decide +kernel
theorem d_R_opensRing_48 : decode k_R_opensRing 48 = .ok (.iconst 1, 1) := by decide +kernel
theorem d_R_opensRing_49 : decode k_R_opensRing 49 = .ok (.isub, 1) := by decide +kernel
theorem d_R_opensRing_50 : decode k_R_opensRing 50 = .ok (.invokevirtual 137, 3) := by decide +kernel
theorem d_R_opensRing_53 : decode k_R_opensRing 53 = .ok (.iconst 1, 1) := by decide +kernel
theorem d_R_opensRing_54 : decode k_R_opensRing 54 = .ok (.ireturn, 1) := by decide +kernel
theorem d_R_readPoint_0 : decode k_R_readPoint 0 = .ok (.aload_n 0, 1) := by decide +kernel
theorem d_R_readPoint_1 : decode k_R_readPoint 1 = .ok (.getfield 26, 3) := by decide +kernel
theorem d_R_readPoint_4 : decode k_R_readPoint 4 = .ok (.invokevirtual 139, 3) := by decide +kernel
theorem d_R_readPoint_7 : decode k_R_readPoint 7 = .ok (.ifCond .ne 13, 3) := by decide +kernel
theorem d_R_readPoint_10 : decode k_R_readPoint 10 = .ok (.aload_n 0, 1) := by decide +kernel
theorem d_R_readPoint_11 : decode k_R_readPoint 11 = .ok (.bipush 7, 2) := by decide +kernel
theorem d_R_readPoint_13 : decode k_R_readPoint 13 = .ok (.aload_n 0, 1) := by decide +kernel
theorem d_R_readPoint_14 : decode k_R_readPoint 14 = .ok (.getfield 39, 3) := by decide +kernel
theorem d_R_readPoint_17 : decode k_R_readPoint 17 = .ok (.invokevirtual 67, 3) := by decide +kernel
theorem d_R_readPoint_20 : decode k_R_readPoint 20 = .ok (.aload_n 0, 1) := by decide +kernel
theorem d_R_readPoint_21 : decode k_R_readPoint 21 = .ok (.invokevirtual 142, 3) := by decide +kernel
theorem d_R_readPoint_24 : decode k_R_readPoint 24 = .ok (.istore_n 1, 1) := by decide +kernel
theorem d_R_readPoint_25 : decode k_R_readPoint 25 = .ok (.aload_n 0, 1) := by decide +kernel
theorem d_R_readPoint_26 : decode k_R_readPoint 26 = .ok (.invokevirtual 64, 3) := by decide +kernel
theorem d_R_readPoint_29 : decode k_R_readPoint 29 = .ok (.aload_n 0, 1) := by decide +kernel
theorem d_R_readPoint_30 : decode k_R_readPoint 30 = .ok (.invokevirtual 142, 3) := by decide +kernel
theorem d_R_readPoint_33 : decode k_R_readPoint 33 = .ok (.istore_n 2, 1) := by decide +kernel
theorem d_R_readPoint_34 : decode k_R_readPoint 34 = .ok (.aload_n 0, 1) := by decide +kernel
theorem d_R_readPoint_35 : decode k_R_readPoint 35 = .ok (.getfield 26, 3) := by decide +kernel
theorem d_R_readPoint_38 : decode k_R_readPoint 38 = .ok (.iload_n 1, 1) := by decide +kernel
theorem d_R_readPoint_39 : decode k_R_readPoint 39 = .ok (.iload_n 2, 1) := by decide +kernel
theorem d_R_readPoint_40 : decode k_R_readPoint 40 = .ok (.invokevirtual 145, 3) := by decide +kernel
theorem d_R_readPoint_43 : decode k_R_readPoint 43 = .ok (.return_, 1) := by decide +kernel
theorem d_R_readNumber_0 : decode k_R_readNumber 0 = .ok (.aload_n 0, 1) := by decide +kernel
theorem d_R_readNumber_1 : decode k_R_readNumber 1 = .ok (.getfield 39, 3) := by decide +kernel
theorem d_R_readNumber_4 : decode k_R_readNumber 4 = .ok (.istore_n 1, 1) := by decide +kernel
theorem d_R_readNumber_5 : decode k_R_readNumber 5 = .ok (.aload_n 0, 1) := by decide +kernel
theorem d_R_readNumber_6 : decode k_R_readNumber 6 = .ok (.invokevirtual 91, 3) := by decide +kernel
theorem d_R_readNumber_9 : decode k_R_readNumber 9 = .ok (.invokestatic 94, 3) := by decide +kernel
theorem d_R_readNumber_12 : decode k_R_readNumber 12 = .ok (.ifCond .ne 7, 3) := by decide +kernel
theorem d_R_readNumber_15 : decode k_R_readNumber 15 = .ok (.aload_n 0, 1) := by decide +kernel
theorem d_R_readNumber_16 : decode k_R_readNumber 16 = .ok (.invokevirtual 118, 3) := by decide +kernel
theorem d_R_readNumber_19 : decode k_R_readNumber 19 = .ok (.aload_n 0, 1) := by decide +kernel
theorem d_R_readNumber_20 : decode k_R_readNumber 20 = .ok (.invokevirtual 91, 3) := by decide +kernel
theorem d_R_readNumber_23 : decode k_R_readNumber 23 = .ok (.bipush 45, 2) := by decide +kernel
theorem d_R_readNumber_25 : decode k_R_readNumber 25 = .ok (.if_icmp .ne 7, 3) := by decide +kernel
theorem d_R_readNumber_28 : decode k_R_readNumber 28 = .ok (.iconst 1, 1) := by decide +kernel
theorem d_R_readNumber_29 : decode k_R_readNumber 29 = .ok (.goto 4, 3) := by decide +kernel
theorem d_R_readNumber_32 : decode k_R_readNumber 32 = .ok (.iconst 0, 1) := by decide +kernel
theorem d_R_readNumber_33 : decode k_R_readNumber 33 = .ok (.istore_n 2, 1) := by decide +kernel
theorem d_R_readNumber_34 : decode k_R_readNumber 34 = .ok (.aload_n 0, 1) := by decide +kernel
theorem d_R_readNumber_35 : decode k_R_readNumber 35 = .ok (.invokevirtual 148, 3) := by decide +kernel
theorem d_R_readNumber_38 : decode k_R_readNumber 38 = .ok (.aload_n 0, 1) := by decide +kernel
theorem d_R_readNumber_39 : decode k_R_readNumber 39 = .ok (.getfield 39, 3) := by decide +kernel
theorem d_R_readNumber_42 : decode k_R_readNumber 42 = .ok (.istore_n 3, 1) := by decide +kernel
theorem d_R_readNumber_43 : decode k_R_readNumber 43 = .ok (.aload_n 0, 1) := by decide +kernel
theorem d_R_readNumber_44 : decode k_R_readNumber 44 = .ok (.invokevirtual 151, 3) := by decide +kernel
theorem d_R_readNumber_47 : decode k_R_readNumber 47 = .ok (.istore 4, 2) := by decide +kernel
theorem d_R_readNumber_49 : decode k_R_readNumber 49 = .ok (.iload 4, 2) := by decide +kernel
theorem d_R_readNumber_51 : decode k_R_readNumber 51 = .ok (.istore 5, 2) := by decide +kernel
theorem d_R_readNumber_53 : decode k_R_readNumber 53 = .ok (.aload_n 0, 1) := by decide +kernel
theorem d_R_readNumber_54 : decode k_R_readNumber 54 = .ok (.invokevirtual 91, 3) := by decide +kernel
theorem d_R_readNumber_57 : decode k_R_readNumber 57 = .ok (.bipush 46, 2) := by decide +kernel
theorem d_R_readNumber_59 : decode k_R_readNumber 59 = .ok (.if_icmp .ne 22, 3) := by decide +kernel
theorem d_R_readNumber_62 : decode k_R_readNumber 62 = .ok (.aload_n 0, 1) := by decide +kernel
theorem d_R_readNumber_63 : decode k_R_readNumber 63 = .ok (.dup, 1) := by decide +kernel
theorem d_R_readNumber_64 : decode k_R_readNumber 64 = .ok (.getfield 39, 3) := by decide +kernel
theorem d_R_readNumber_67 : decode k_R_readNumber 67 = .ok (.iconst 1, 1) := by decide +kernel
theorem d_R_readNumber_68 : decode k_R_readNumber 68 = .ok (.iadd, 1) := by decide +kernel
theorem d_R_readNumber_69 : decode k_R_readNumber 69 = .ok (.putfield 39, 3) := by decide +kernel
theorem d_R_readNumber_72 : decode k_R_readNumber 72 = .ok (.iload 5, 2) := by decide +kernel
theorem d_R_readNumber_74 : decode k_R_readNumber 74 = .ok (.aload_n 0, 1) := by decide +kernel
theorem d_R_readNumber_75 : decode k_R_readNumber 75 = .ok (.invokevirtual 151, 3) := by decide +kernel
theorem d_R_readNumber_78 : decode k_R_readNumber 78 = .ok (.iadd, 1) := by decide +kernel
theorem d_R_readNumber_79 : decode k_R_readNumber 79 = .ok (.istore 5, 2) := by decide +kernel
theorem d_R_readNumber_81 : decode k_R_readNumber 81 = .ok (.aload_n 0, 1) := by decide +kernel
theorem d_R_readNumber_82 : decode k_R_readNumber 82 = .ok (.getfield 39, 3) := by decide +kernel
theorem d_R_readNumber_85 : decode k_R_readNumber 85 = .ok (.istore 6, 2) := by decide +kernel
theorem d_R_readNumber_87 : decode k_R_readNumber 87 = .ok (.aload_n 0, 1) := by decide +kernel
theorem d_R_readNumber_88 : decode k_R_readNumber 88 = .ok (.invokevirtual 91, 3) := by decide +kernel
theorem d_R_readNumber_91 : decode k_R_readNumber 91 = .ok (.bipush 101, 2) := by decide +kernel
theorem d_R_readNumber_93 : decode k_R_readNumber 93 = .ok (.if_icmp .eq 12, 3) := by decide +kernel
theorem d_R_readNumber_96 : decode k_R_readNumber 96 = .ok (.aload_n 0, 1) := by decide +kernel
theorem d_R_readNumber_97 : decode k_R_readNumber 97 = .ok (.invokevirtual 91, 3) := by decide +kernel
theorem d_R_readNumber_100 : decode k_R_readNumber 100 = .ok (.bipush 69, 2) := by decide +kernel
theorem d_R_readNumber_102 : decode k_R_readNumber 102 = .ok (.if_icmp .ne 11, 3) := by decide +kernel
theorem d_R_readNumber_105 : decode k_R_readNumber 105 = .ok (.aload_n 0, 1) := by decide +kernel
theorem d_R_readNumber_106 : decode k_R_readNumber 106 = .ok (.iload_n 1, 1) := by decide +kernel
theorem d_R_readNumber_107 : decode k_R_readNumber 107 = .ok (.invokevirtual 154, 3) := by decide +kernel
theorem d_R_readNumber_110 : decode k_R_readNumber 110 = .ok (.goto 4, 3) := by decide +kernel
theorem d_R_readNumber_113 : decode k_R_readNumber 113 = .ok (.iconst 0, 1) := by decide +kernel
theorem d_R_readNumber_114 : decode k_R_readNumber 114 = .ok (.istore 7, 2) := by decide +kernel
theorem d_R_readNumber_116 : decode k_R_readNumber 116 = .ok (.iload 5, 2) := by decide +kernel
theorem d_R_readNumber_118 : decode k_R_readNumber 118 = .ok (.ifCond .eq 23, 3) := by decide +kernel
theorem d_R_readNumber_121 : decode k_R_readNumber 121 = .ok (.aload_n 0, 1) := by decide +kernel
theorem d_R_readNumber_122 : decode k_R_readNumber 122 = .ok (.invokevirtual 91, 3) := by decide +kernel
theorem d_R_readNumber_125 : decode k_R_readNumber 125 = .ok (.invokestatic 115, 3) := by decide +kernel
theorem d_R_readNumber_128 : decode k_R_readNumber 128 = .ok (.ifCond .ne 13, 3) := by decide +kernel
theorem d_R_readNumber_131 : decode k_R_readNumber 131 = .ok (.aload_n 0, 1) := by decide +kernel
theorem d_R_readNumber_132 : decode k_R_readNumber 132 = .ok (.invokevirtual 91, 3) := by decide +kernel
theorem d_R_readNumber_135 : decode k_R_readNumber 135 = .ok (.invokestatic 94, 3) := by decide +kernel
theorem d_R_readNumber_138 : decode k_R_readNumber 138 = .ok (.ifCond .eq 9, 3) := by decide +kernel
theorem d_R_readNumber_141 : decode k_R_readNumber 141 = .ok (.aload_n 0, 1) := by decide +kernel
theorem d_R_readNumber_142 : decode k_R_readNumber 142 = .ok (.iconst 4, 1) := by decide +kernel
theorem d_R_readNumber_143 : decode k_R_readNumber 143 = .ok (.iload_n 1, 1) := by decide +kernel
theorem d_R_readNumber_144 : decode k_R_readNumber 144 = .ok (.invokevirtual 67, 3) := by decide +kernel
theorem d_R_readNumber_147 : decode k_R_readNumber 147 = .ok (.aload_n 0, 1) := by decide +kernel
theorem d_R_readNumber_148 : decode k_R_readNumber 148 = .ok (.iload_n 3, 1) := by decide +kernel
theorem d_R_readNumber_149 : decode k_R_readNumber 149 = .ok (.iload 6, 2) := by decide +kernel
theorem d_R_readNumber_151 : decode k_R_readNumber 151 = .ok (.iload 4, 2) := by decide +kernel
theorem d_R_readNumber_153 : decode k_R_readNumber 153 = .ok (.iload 7, 2) := by decide +kernel
theorem d_R_readNumber_155 : decode k_R_readNumber 155 = .ok (.iadd, 1) := by decide +kernel
theorem d_R_readNumber_156 : decode k_R_readNumber 156 = .ok (.aload_n 0, 1) := by decide +kernel
theorem d_R_readNumber_157 : decode k_R_readNumber 157 = .ok (.getfield 22, 3) := by decide +kernel
theorem d_R_readNumber_160 : decode k_R_readNumber 160 = .ok (.iadd, 1) := by decide +kernel
theorem d_R_readNumber_161 : decode k_R_readNumber 161 = .ok (.invokevirtual 157, 3) := by decide +kernel
theorem d_R_readNumber_164 : decode k_R_readNumber 164 = .ok (.lstore 8, 2) := by decide +kernel
theorem d_R_readNumber_166 : decode k_R_readNumber 166 = .ok (.lload 8, 2) := by decide +kernel
theorem d_R_readNumber_168 : decode k_R_readNumber 168 = .ok (.ldc2_w 161, 3) := by decide +kernel
theorem d_R_readNumber_171 : decode k_R_readNumber 171 = .ok (.lcmp, 1) := by decide +kernel
theorem d_R_readNumber_172 : decode k_R_readNumber 172 = .ok (.ifCond .le 9, 3) := by decide +kernel
theorem d_R_readNumber_175 : decode k_R_readNumber 175 = .ok (.aload_n 0, 1) := by decide +kernel
theorem d_R_readNumber_176 : decode k_R_readNumber 176 = .ok (.iconst 5, 1) := by decide +kernel
theorem d_R_readNumber_177 : decode k_R_readNumber 177 = .ok (.iload_n 1, 1) := by decide +kernel
theorem d_R_readNumber_178 : decode k_R_readNumber 178 = .ok (.invokevirtual 67, 3) := by decide +kernel
theorem d_R_readNumber_181 : decode k_R_readNumber 181 = .ok (.iload_n 2, 1) := by decide +kernel
theorem d_R_readNumber_182 : decode k_R_readNumber 182 = .ok (.ifCond .eq 9, 3) := by decide +kernel
theorem d_R_readNumber_185 : decode k_R_readNumber 185 = .ok (.lload 8, 2) := by decide +kernel
theorem d_R_readNumber_187 : decode k_R_readNumber 187 = .ok (.lneg, 1) := by decide +kernel
theorem d_R_readNumber_188 : decode k_R_readNumber 188 = .ok (.goto 5, 3) := by decide +kernel
theorem d_R_readNumber_191 : decode k_R_readNumber 191 = .ok (.lload 8, 2) := by decide +kernel
theorem d_R_readNumber_193 : decode k_R_readNumber 193 = .ok (.l2i, 1) := by decide +kernel
theorem d_R_readNumber_194 : decode k_R_readNumber 194 = .ok (.ireturn, 1) := by decide +kernel
theorem d_R_readExponent_0 : decode k_R_readExponent 0 = .ok (.aload_n 0, 1) := by decide +kernel
theorem d_R_readExponent_1 : decode k_R_readExponent 1 = .ok (.dup, 1) := by decide +kernel
theorem d_R_readExponent_2 : decode k_R_readExponent 2 = .ok (.getfield 39, 3) := by decide +kernel
theorem d_R_readExponent_5 : decode k_R_readExponent 5 = .ok (.iconst 1, 1) := by decide +kernel
theorem d_R_readExponent_6 : decode k_R_readExponent 6 = .ok (.iadd, 1) := by decide +kernel
theorem d_R_readExponent_7 : decode k_R_readExponent 7 = .ok (.putfield 39, 3) := by decide +kernel
theorem d_R_readExponent_10 : decode k_R_readExponent 10 = .ok (.aload_n 0, 1) := by decide +kernel
theorem d_R_readExponent_11 : decode k_R_readExponent 11 = .ok (.invokevirtual 91, 3) := by decide +kernel
theorem d_R_readExponent_14 : decode k_R_readExponent 14 = .ok (.bipush 45, 2) := by decide +kernel
theorem d_R_readExponent_16 : decode k_R_readExponent 16 = .ok (.if_icmp .ne 7, 3) := by decide +kernel
theorem d_R_readExponent_19 : decode k_R_readExponent 19 = .ok (.iconst 1, 1) := by decide +kernel
theorem d_R_readExponent_20 : decode k_R_readExponent 20 = .ok (.goto 4, 3) := by decide +kernel
theorem d_R_readExponent_23 : decode k_R_readExponent 23 = .ok (.iconst 0, 1) := by decide +kernel
theorem d_R_readExponent_24 : decode k_R_readExponent 24 = .ok (.istore_n 2, 1) := by decide +kernel
theorem d_R_readExponent_25 : decode k_R_readExponent 25 = .ok (.aload_n 0, 1) := by decide +kernel
theorem d_R_readExponent_26 : decode k_R_readExponent 26 = .ok (.invokevirtual 148, 3) := by decide +kernel
theorem d_R_readExponent_29 : decode k_R_readExponent 29 = .ok (.aload_n 0, 1) := by decide +kernel
theorem d_R_readExponent_30 : decode k_R_readExponent 30 = .ok (.getfield 39, 3) := by decide +kernel
theorem d_R_readExponent_33 : decode k_R_readExponent 33 = .ok (.istore_n 3, 1) := by decide +kernel
theorem d_R_readExponent_34 : decode k_R_readExponent 34 = .ok (.iconst 0, 1) := by decide +kernel
theorem d_R_readExponent_35 : decode k_R_readExponent 35 = .ok (.istore 4, 2) := by decide +kernel
theorem d_R_readExponent_37 : decode k_R_readExponent 37 = .ok (.aload_n 0, 1) := by decide +kernel
theorem d_R_readExponent_38 : decode k_R_readExponent 38 = .ok (.getfield 39, 3) := by decide +kernel
theorem d_R_readExponent_41 : decode k_R_readExponent 41 = .ok (.aload_n 0, 1) := by decide +kernel
theorem d_R_readExponent_42 : decode k_R_readExponent 42 = .ok (.getfield 36, 3) := by decide +kernel
theorem d_R_readExponent_45 : decode k_R_readExponent 45 = .ok (.if_icmp .ge 56, 3) := by decide +kernel
theorem d_R_readExponent_48 : decode k_R_readExponent 48 = .ok (.aload_n 0, 1) := by decide +kernel
theorem d_R_readExponent_49 : decode k_R_readExponent 49 = .ok (.getfield 18, 3) := by decide +kernel
theorem d_R_readExponent_52 : decode k_R_readExponent 52 = .ok (.aload_n 0, 1) := by decide +kernel
theorem d_R_readExponent_53 : decode k_R_readExponent 53 = .ok (.getfield 39, 3) := by decide +kernel
theorem d_R_readExponent_56 : decode k_R_readExponent 56 = .ok (.baload, 1) := by decide +kernel
theorem d_R_readExponent_57 : decode k_R_readExponent 57 = .ok (.invokestatic 163, 3) := by decide +kernel
theorem d_R_readExponent_60 : decode k_R_readExponent 60 = .ok (.ifCond .eq 41, 3) := by decide +kernel
theorem d_R_readExponent_63 : decode k_R_readExponent 63 = .ok (.bipush 10, 2) := by decide +kernel
theorem d_R_readExponent_65 : decode k_R_readExponent 65 = .ok (.iload 4, 2) := by decide +kernel
theorem d_R_readExponent_67 : decode k_R_readExponent 67 = .ok (.imul, 1) := by decide +kernel
theorem d_R_readExponent_68 : decode k_R_readExponent 68 = .ok (.aload_n 0, 1) := by decide +kernel
theorem d_R_readExponent_69 : decode k_R_readExponent 69 = .ok (.getfield 18, 3) := by decide +kernel
theorem d_R_readExponent_72 : decode k_R_readExponent 72 = .ok (.aload_n 0, 1) := by decide +kernel
theorem d_R_readExponent_73 : decode k_R_readExponent 73 = .ok (.getfield 39, 3) := by decide +kernel
theorem d_R_readExponent_76 : decode k_R_readExponent 76 = .ok (.baload, 1) := by decide +kernel
theorem d_R_readExponent_77 : decode k_R_readExponent 77 = .ok (.iadd, 1) := by decide +kernel
theorem d_R_readExponent_78 : decode k_R_readExponent 78 = .ok (.bipush 48, 2) := by decide +kernel
theorem d_R_readExponent_80 : decode k_R_readExponent 80 = .ok (.isub, 1) := by decide +kernel
theorem d_R_readExponent_81 : decode k_R_readExponent 81 = .ok (.ldc 166, 2) := by decide +kernel
theorem d_R_readExponent_83 : decode k_R_readExponent 83 = .ok (.invokestatic 30, 3) := by decide +kernel
theorem d_R_readExponent_86 : decode k_R_readExponent 86 = .ok (.istore 4, 2) := by decide +kernel
theorem d_R_readExponent_88 : decode k_R_readExponent 88 = .ok (.aload_n 0, 1) := by decide +kernel
theorem d_R_readExponent_89 : decode k_R_readExponent 89 = .ok (.dup, 1) := by decide +kernel
theorem d_R_readExponent_90 : decode k_R_readExponent 90 = .ok (.getfield 39, 3) := by decide +kernel
theorem d_R_readExponent_93 : decode k_R_readExponent 93 = .ok (.iconst 1, 1) := by decide +kernel
theorem d_R_readExponent_94 : decode k_R_readExponent 94 = .ok (.iadd, 1) := by decide +kernel
theorem d_R_readExponent_95 : decode k_R_readExponent 95 = .ok (.putfield 39, 3) := by decide +kernel
theorem d_R_readExponent_98 : decode k_R_readExponent 98 = .ok (.goto (-61), 3) := by decide +kernel
theorem d_R_readExponent_101 : decode k_R_readExponent 101 = .ok (.aload_n 0, 1) := by decide +kernel
theorem d_R_readExponent_102 : decode k_R_readExponent 102 = .ok (.getfield 39, 3) := by decide +kernel
theorem d_R_readExponent_105 : decode k_R_readExponent 105 = .ok (.iload_n 3, 1) := by decide +kernel
theorem d_R_readExponent_106 : decode k_R_readExponent 106 = .ok (.if_icmp .ne 9, 3) := by decide +kernel
theorem d_R_readExponent_109 : decode k_R_readExponent 109 = .ok (.aload_n 0, 1) := by decide +kernel
theorem d_R_readExponent_110 : decode k_R_readExponent 110 = .ok (.iconst 4, 1) := by decide +kernel
theorem d_R_readExponent_111 : decode k_R_readExponent 111 = .ok (.iload_n 1, 1) := by decide +kernel
theorem d_R_readExponent_112 : decode k_R_readExponent 112 = .ok (.invokevirtual 67, 3) := by decide +kernel
theorem d_R_readExponent_115 : decode k_R_readExponent 115 = .ok (.iload_n 2, 1) := by decide +kernel
theorem d_R_readExponent_116 : decode k_R_readExponent 116 = .ok (.ifCond .eq 9, 3) := by decide +kernel
theorem d_R_readExponent_119 : decode k_R_readExponent 119 = .ok (.iload 4, 2) := by decide +kernel
theorem d_R_readExponent_121 : decode k_R_readExponent 121 = .ok (.ineg, 1) := by decide +kernel
theorem d_R_readExponent_122 : decode k_R_readExponent 122 = .ok (.goto 5, 3) := by decide +kernel
theorem d_R_readExponent_125 : decode k_R_readExponent 125 = .ok (.iload 4, 2) := by decide +kernel
theorem d_R_readExponent_127 : decode k_R_readExponent 127 = .ok (.ireturn, 1) := by decide +kernel
theorem d_R_roundedUnits_0 : decode k_R_roundedUnits 0 = .ok (.lconst 0, 1) := by decide +kernel
theorem d_R_roundedUnits_1 : decode k_R_roundedUnits 1 = .ok (.lstore 4, 2) := by decide +kernel
theorem d_R_roundedUnits_3 : decode k_R_roundedUnits 3 = .ok (.iconst 0, 1) := by decide +kernel
theorem d_R_roundedUnits_4 : decode k_R_roundedUnits 4 = .ok (.istore 6, 2) := by decide +kernel
theorem d_R_roundedUnits_6 : decode k_R_roundedUnits 6 = .ok (.iconst 0, 1) := by decide +kernel
theorem d_R_roundedUnits_7 : decode k_R_roundedUnits 7 = .ok (.istore 7, 2) := by decide +kernel
theorem d_R_roundedUnits_9 : decode k_R_roundedUnits 9 = .ok (.iconst 0, 1) := by decide +kernel
theorem d_R_roundedUnits_10 : decode k_R_roundedUnits 10 = .ok (.istore 8, 2) := by decide +kernel
theorem d_R_roundedUnits_12 : decode k_R_roundedUnits 12 = .ok (.iload_n 1, 1) := by decide +kernel
theorem d_R_roundedUnits_13 : decode k_R_roundedUnits 13 = .ok (.istore 9, 2) := by decide +kernel
theorem d_R_roundedUnits_15 : decode k_R_roundedUnits 15 = .ok (.iload 9, 2) := by decide +kernel
theorem d_R_roundedUnits_17 : decode k_R_roundedUnits 17 = .ok (.iload_n 2, 1) := by decide +kernel
theorem d_R_roundedUnits_18 : decode k_R_roundedUnits 18 = .ok (.if_icmp .ge 85, 3) := by decide +kernel
theorem d_R_roundedUnits_21 : decode k_R_roundedUnits 21 = .ok (.aload_n 0, 1) := by decide +kernel
theorem d_R_roundedUnits_22 : decode k_R_roundedUnits 22 = .ok (.getfield 18, 3) := by decide +kernel
theorem d_R_roundedUnits_25 : decode k_R_roundedUnits 25 = .ok (.iload 9, 2) := by decide +kernel
theorem d_R_roundedUnits_27 : decode k_R_roundedUnits 27 = .ok (.baload, 1) := by decide +kernel
theorem d_R_roundedUnits_28 : decode k_R_roundedUnits 28 = .ok (.invokestatic 163, 3) := by decide +kernel
theorem d_R_roundedUnits_31 : decode k_R_roundedUnits 31 = .ok (.ifCond .eq 66, 3) := by decide +kernel
theorem d_R_roundedUnits_34 : decode k_R_roundedUnits 34 = .ok (.aload_n 0, 1) := by decide +kernel
theorem d_R_roundedUnits_35 : decode k_R_roundedUnits 35 = .ok (.getfield 18, 3) := by decide +kernel
theorem d_R_roundedUnits_38 : decode k_R_roundedUnits 38 = .ok (.iload 9, 2) := by decide +kernel
theorem d_R_roundedUnits_40 : decode k_R_roundedUnits 40 = .ok (.baload, 1) := by decide +kernel
theorem d_R_roundedUnits_41 : decode k_R_roundedUnits 41 = .ok (.bipush 48, 2) := by decide +kernel
theorem d_R_roundedUnits_43 : decode k_R_roundedUnits 43 = .ok (.isub, 1) := by decide +kernel
theorem d_R_roundedUnits_44 : decode k_R_roundedUnits 44 = .ok (.istore 10, 2) := by decide +kernel
theorem d_R_roundedUnits_46 : decode k_R_roundedUnits 46 = .ok (.iload 6, 2) := by decide +kernel
theorem d_R_roundedUnits_48 : decode k_R_roundedUnits 48 = .ok (.iload_n 3, 1) := by decide +kernel
theorem d_R_roundedUnits_49 : decode k_R_roundedUnits 49 = .ok (.if_icmp .ge 17, 3) := by decide +kernel
theorem d_R_roundedUnits_52 : decode k_R_roundedUnits 52 = .ok (.lload 4, 2) := by decide +kernel
theorem d_R_roundedUnits_54 : decode k_R_roundedUnits 54 = .ok (.invokestatic 167, 3) := by decide +kernel
theorem d_R_roundedUnits_57 : decode k_R_roundedUnits 57 = .ok (.iload 10, 2) := by decide +kernel
theorem d_R_roundedUnits_59 : decode k_R_roundedUnits 59 = .ok (.i2l, 1) := by decide +kernel
theorem d_R_roundedUnits_60 : decode k_R_roundedUnits 60 = .ok (.ladd, 1) := by decide +kernel
theorem d_R_roundedUnits_61 : decode k_R_roundedUnits 61 = .ok (.lstore 4, 2) := by decide +kernel
theorem d_R_roundedUnits_63 : decode k_R_roundedUnits 63 = .ok (.goto 31, 3) := by decide +kernel
theorem d_R_roundedUnits_66 : decode k_R_roundedUnits 66 = .ok (.iload 6, 2) := by decide +kernel
theorem d_R_roundedUnits_68 : decode k_R_roundedUnits 68 = .ok (.iload_n 3, 1) := by decide +kernel
theorem d_R_roundedUnits_69 : decode k_R_roundedUnits 69 = .ok (.if_icmp .ne 10, 3) := by decide +kernel
theorem d_R_roundedUnits_72 : decode k_R_roundedUnits 72 = .ok (.iload 10, 2) := by decide +kernel
theorem d_R_roundedUnits_74 : decode k_R_roundedUnits 74 = .ok (.istore 7, 2) := by decide +kernel
theorem d_R_roundedUnits_76 : decode k_R_roundedUnits 76 = .ok (.goto 18, 3) := by decide +kernel
theorem d_R_roundedUnits_79 : decode k_R_roundedUnits 79 = .ok (.iload 8, 2) := by decide +kernel
theorem d_R_roundedUnits_81 : decode k_R_roundedUnits 81 = .ok (.iload 10, 2) := by decide +kernel
theorem d_R_roundedUnits_83 : decode k_R_roundedUnits 83 = .ok (.ifCond .eq 7, 3) := by decide +kernel
theorem d_R_roundedUnits_86 : decode k_R_roundedUnits 86 = .ok (.iconst 1, 1) := by decide +kernel
theorem d_R_roundedUnits_87 : decode k_R_roundedUnits 87 = .ok (.goto 4, 3) := by decide +kernel
theorem d_R_roundedUnits_90 : decode k_R_roundedUnits 90 = .ok (.iconst 0, 1) := by decide +kernel
theorem d_R_roundedUnits_91 : decode k_R_roundedUnits 91 = .ok (.ior, 1) := by decide +kernel
theorem d_R_roundedUnits_92 : decode k_R_roundedUnits 92 = .ok (.istore 8, 2) := by decide +kernel
theorem d_R_roundedUnits_94 : decode k_R_roundedUnits 94 = .ok (.iinc 6 1, 3) := by decide +kernel
theorem d_R_roundedUnits_97 : decode k_R_roundedUnits 97 = .ok (.iinc 9 1, 3) := by decide +kernel
theorem d_R_roundedUnits_100 : decode k_R_roundedUnits 100 = .ok (.goto (-85), 3) := by decide +kernel
theorem d_R_roundedUnits_103 : decode k_R_roundedUnits 103 = .ok (.iconst 0, 1) := by decide +kernel
theorem d_R_roundedUnits_104 : decode k_R_roundedUnits 104 = .ok (.istore 9, 2) := by decide +kernel
theorem d_R_roundedUnits_106 : decode k_R_roundedUnits 106 = .ok (.iload 9, 2) := by decide +kernel
theorem d_R_roundedUnits_108 : decode k_R_roundedUnits 108 = .ok (.bipush 10, 2) := by decide +kernel
theorem d_R_roundedUnits_110 : decode k_R_roundedUnits 110 = .ok (.if_icmp .ge 25, 3) := by decide +kernel
theorem d_R_roundedUnits_113 : decode k_R_roundedUnits 113 = .ok (.iload 6, 2) := by decide +kernel
theorem d_R_roundedUnits_115 : decode k_R_roundedUnits 115 = .ok (.iload 9, 2) := by decide +kernel
theorem d_R_roundedUnits_117 : decode k_R_roundedUnits 117 = .ok (.iadd, 1) := by decide +kernel
theorem d_R_roundedUnits_118 : decode k_R_roundedUnits 118 = .ok (.iload_n 3, 1) := by decide +kernel
theorem d_R_roundedUnits_119 : decode k_R_roundedUnits 119 = .ok (.if_icmp .ge 16, 3) := by decide +kernel
theorem d_R_roundedUnits_122 : decode k_R_roundedUnits 122 = .ok (.lload 4, 2) := by decide +kernel
theorem d_R_roundedUnits_124 : decode k_R_roundedUnits 124 = .ok (.invokestatic 167, 3) := by decide +kernel
theorem d_R_roundedUnits_127 : decode k_R_roundedUnits 127 = .ok (.lstore 4, 2) := by decide +kernel
theorem d_R_roundedUnits_129 : decode k_R_roundedUnits 129 = .ok (.iinc 9 1, 3) := by decide +kernel
theorem d_R_roundedUnits_132 : decode k_R_roundedUnits 132 = .ok (.goto (-26), 3) := by decide +kernel
theorem d_R_roundedUnits_135 : decode k_R_roundedUnits 135 = .ok (.lload 4, 2) := by decide +kernel
theorem d_R_roundedUnits_137 : decode k_R_roundedUnits 137 = .ok (.lconst 1, 1) := by decide +kernel
theorem d_R_roundedUnits_138 : decode k_R_roundedUnits 138 = .ok (.land, 1) := by decide +kernel
theorem d_R_roundedUnits_139 : decode k_R_roundedUnits 139 = .ok (.lconst 1, 1) := by decide +kernel
theorem d_R_roundedUnits_140 : decode k_R_roundedUnits 140 = .ok (.lcmp, 1) := by decide +kernel
theorem d_R_roundedUnits_141 : decode k_R_roundedUnits 141 = .ok (.ifCond .ne 7, 3) := by decide +kernel
theorem d_R_roundedUnits_144 : decode k_R_roundedUnits 144 = .ok (.iconst 1, 1) := by decide +kernel
theorem d_R_roundedUnits_145 : decode k_R_roundedUnits 145 = .ok (.goto 4, 3) := by decide +kernel
theorem d_R_roundedUnits_148 : decode k_R_roundedUnits 148 = .ok (.iconst 0, 1) := by decide +kernel
theorem d_R_roundedUnits_149 : decode k_R_roundedUnits 149 = .ok (.istore 9, 2) := by decide +kernel
theorem d_R_roundedUnits_151 : decode k_R_roundedUnits 151 = .ok (.iload 7, 2) := by decide +kernel
theorem d_R_roundedUnits_153 : decode k_R_roundedUnits 153 = .ok (.iconst 5, 1) := by decide +kernel
theorem d_R_roundedUnits_154 : decode k_R_roundedUnits 154 = .ok (.if_icmp .gt 19, 3) := by decide +kernel
theorem d_R_roundedUnits_157 : decode k_R_roundedUnits 157 = .ok (.iload 7, 2) := by decide +kernel
theorem d_R_roundedUnits_159 : decode k_R_roundedUnits 159 = .ok (.iconst 5, 1) := by decide +kernel
theorem d_R_roundedUnits_160 : decode k_R_roundedUnits 160 = .ok (.if_icmp .ne 20, 3) := by decide +kernel
theorem d_R_roundedUnits_163 : decode k_R_roundedUnits 163 = .ok (.iload 8, 2) := by decide +kernel
theorem d_R_roundedUnits_165 : decode k_R_roundedUnits 165 = .ok (.ifCond .ne 8, 3) := by decide +kernel
theorem d_R_roundedUnits_168 : decode k_R_roundedUnits 168 = .ok (.iload 9, 2) := by decide +kernel
theorem d_R_roundedUnits_170 : decode k_R_roundedUnits 170 = .ok (.ifCond .eq 10, 3) := by decide +kernel
theorem d_R_roundedUnits_173 : decode k_R_roundedUnits 173 = .ok (.lload 4, 2) := by decide +kernel
theorem d_R_roundedUnits_175 : decode k_R_roundedUnits 175 = .ok (.lconst 1, 1) := by decide +kernel
theorem d_R_roundedUnits_176 : decode k_R_roundedUnits 176 = .ok (.ladd, 1) := by decide +kernel
theorem d_R_roundedUnits_177 : decode k_R_roundedUnits 177 = .ok (.goto 5, 3) := by decide +kernel
theorem d_R_roundedUnits_180 : decode k_R_roundedUnits 180 = .ok (.lload 4, 2) := by decide +kernel
theorem d_R_roundedUnits_182 : decode k_R_roundedUnits 182 = .ok (.lreturn, 1) := by decide +kernel
theorem d_R_tenfold_0 : decode k_R_tenfold 0 = .ok (.lload_n 0, 1) := by decide +kernel
theorem d_R_tenfold_1 : decode k_R_tenfold 1 = .ok (.ldc2_w 161, 3) := by decide +kernel
theorem d_R_tenfold_4 : decode k_R_tenfold 4 = .ok (.lcmp, 1) := by decide +kernel
theorem d_R_tenfold_5 : decode k_R_tenfold 5 = .ok (.ifCond .le 7, 3) := by decide +kernel
theorem d_R_tenfold_8 : decode k_R_tenfold 8 = .ok (.lload_n 0, 1) := by decide +kernel
theorem d_R_tenfold_9 : decode k_R_tenfold 9 = .ok (.goto 8, 3) := by decide +kernel
theorem d_R_tenfold_12 : decode k_R_tenfold 12 = .ok (.ldc2_w 171, 3) := by decide +kernel
theorem d_R_tenfold_15 : decode k_R_tenfold 15 = .ok (.lload_n 0, 1) := by decide +kernel
theorem d_R_tenfold_16 : decode k_R_tenfold 16 = .ok (.lmul, 1) := by decide +kernel
theorem d_R_tenfold_17 : decode k_R_tenfold 17 = .ok (.lreturn, 1) := by decide +kernel
theorem d_R_kindFrom_0 : decode k_R_kindFrom 0 = .ok (.iconst 1, 1) := by decide +kernel
theorem d_R_kindFrom_1 : decode k_R_kindFrom 1 = .ok (.istore_n 2, 1) := by decide +kernel
theorem d_R_kindFrom_2 : decode k_R_kindFrom 2 = .ok (.iload_n 2, 1) := by decide +kernel
theorem d_R_kindFrom_3 : decode k_R_kindFrom 3 = .ok (.bipush 7, 2) := by decide +kernel
theorem d_R_kindFrom_5 : decode k_R_kindFrom 5 = .ok (.if_icmp .gt 23, 3) := by decide +kernel
theorem d_R_kindFrom_8 : decode k_R_kindFrom 8 = .ok (.aload_n 0, 1) := by decide +kernel
theorem d_R_kindFrom_9 : decode k_R_kindFrom 9 = .ok (.iload_n 1, 1) := by decide +kernel
theorem d_R_kindFrom_10 : decode k_R_kindFrom 10 = .ok (.iload_n 2, 1) := by decide +kernel
theorem d_R_kindFrom_11 : decode k_R_kindFrom 11 = .ok (.invokestatic 173, 3) := by decide +kernel
theorem d_R_kindFrom_14 : decode k_R_kindFrom 14 = .ok (.invokevirtual 177, 3) := by decide +kernel
theorem d_R_kindFrom_17 : decode k_R_kindFrom 17 = .ok (.ifCond .eq 5, 3) := by decide +kernel
theorem d_R_kindFrom_20 : decode k_R_kindFrom 20 = .ok (.iload_n 2, 1) := by decide +kernel
theorem d_R_kindFrom_21 : decode k_R_kindFrom 21 = .ok (.ireturn, 1) := by decide +kernel
theorem d_R_kindFrom_22 : decode k_R_kindFrom 22 = .ok (.iinc 2 1, 3) := by decide +kernel
theorem d_R_kindFrom_25 : decode k_R_kindFrom 25 = .ok (.goto (-23), 3) := by decide +kernel
theorem d_R_kindFrom_28 : decode k_R_kindFrom 28 = .ok (.iconst (-1), 1) := by decide +kernel
theorem d_R_kindFrom_29 : decode k_R_kindFrom 29 = .ok (.ireturn, 1) := by decide +kernel
theorem d_R_passEmpty_0 : decode k_R_passEmpty 0 = .ok (.aload_n 0, 1) := by decide +kernel
theorem d_R_passEmpty_1 : decode k_R_passEmpty 1 = .ok (.getfield 39, 3) := by decide +kernel
theorem d_R_passEmpty_4 : decode k_R_passEmpty 4 = .ok (.istore_n 1, 1) := by decide +kernel
theorem d_R_passEmpty_5 : decode k_R_passEmpty 5 = .ok (.aload_n 0, 1) := by decide +kernel
theorem d_R_passEmpty_6 : decode k_R_passEmpty 6 = .ok (.invokevirtual 121, 3) := by decide +kernel
theorem d_R_passEmpty_9 : decode k_R_passEmpty 9 = .ok (.aload_n 0, 1) := by decide +kernel
theorem d_R_passEmpty_10 : decode k_R_passEmpty 10 = .ok (.iload_n 1, 1) := by decide +kernel
theorem d_R_passEmpty_11 : decode k_R_passEmpty 11 = .ok (.ldc 181, 2) := by decide +kernel
theorem d_R_passEmpty_13 : decode k_R_passEmpty 13 = .ok (.invokevirtual 177, 3) := by decide +kernel
theorem d_R_passEmpty_16 : decode k_R_passEmpty 16 = .ok (.ifCond .ne 9, 3) := by decide +kernel
theorem d_R_passEmpty_19 : decode k_R_passEmpty 19 = .ok (.aload_n 0, 1) := by decide +kernel
theorem d_R_passEmpty_20 : decode k_R_passEmpty 20 = .ok (.iconst 2, 1) := by decide +kernel
theorem d_R_passEmpty_21 : decode k_R_passEmpty 21 = .ok (.iload_n 1, 1) := by decide +kernel
theorem d_R_passEmpty_22 : decode k_R_passEmpty 22 = .ok (.invokevirtual 67, 3) := by decide +kernel
theorem d_R_passEmpty_25 : decode k_R_passEmpty 25 = .ok (.return_, 1) := by decide +kernel
theorem d_R_isWord_0 : decode k_R_isWord 0 = .ok (.aload_n 0, 1) := by decide +kernel
theorem d_R_isWord_1 : decode k_R_isWord 1 = .ok (.getfield 39, 3) := by decide +kernel
theorem d_R_isWord_4 : decode k_R_isWord 4 = .ok (.iload_n 1, 1) := by decide +kernel
theorem d_R_isWord_5 : decode k_R_isWord 5 = .ok (.isub, 1) := by decide +kernel
theorem d_R_isWord_6 : decode k_R_isWord 6 = .ok (.aload_n 2, 1) := by decide +kernel
theorem d_R_isWord_7 : decode k_R_isWord 7 = .ok (.invokevirtual 183, 3) := by decide +kernel
theorem d_R_isWord_10 : decode k_R_isWord 10 = .ok (.if_icmp .eq 5, 3) := by decide +kernel
theorem d_R_isWord_13 : decode k_R_isWord 13 = .ok (.iconst 0, 1) := by decide +kernel
theorem d_R_isWord_14 : decode k_R_isWord 14 = .ok (.ireturn, 1) := by decide +kernel
theorem d_R_isWord_15 : decode k_R_isWord 15 = .ok (.iload_n 1, 1) := by decide +kernel
theorem d_R_isWord_16 : decode k_R_isWord 16 = .ok (.istore_n 3, 1) := by decide +kernel
theorem d_R_isWord_17 : decode k_R_isWord 17 = .ok (.iload_n 3, 1) := by decide +kernel
theorem d_R_isWord_18 : decode k_R_isWord 18 = .ok (.aload_n 0, 1) := by decide +kernel
theorem d_R_isWord_19 : decode k_R_isWord 19 = .ok (.getfield 39, 3) := by decide +kernel
theorem d_R_isWord_22 : decode k_R_isWord 22 = .ok (.if_icmp .ge 30, 3) := by decide +kernel
theorem d_R_isWord_25 : decode k_R_isWord 25 = .ok (.aload_n 0, 1) := by decide +kernel
theorem d_R_isWord_26 : decode k_R_isWord 26 = .ok (.getfield 18, 3) := by decide +kernel
theorem d_R_isWord_29 : decode k_R_isWord 29 = .ok (.iload_n 3, 1) := by decide +kernel
theorem d_R_isWord_30 : decode k_R_isWord 30 = .ok (.baload, 1) := by decide +kernel
theorem d_R_isWord_31 : decode k_R_isWord 31 = .ok (.bipush (-33), 2) := by decide +kernel
theorem d_R_isWord_33 : decode k_R_isWord 33 = .ok (.iand, 1) := by decide +kernel
theorem d_R_isWord_34 : decode k_R_isWord 34 = .ok (.aload_n 2, 1) := by decide +kernel
theorem d_R_isWord_35 : decode k_R_isWord 35 = .ok (.iload_n 3, 1) := by decide +kernel
theorem d_R_isWord_36 : decode k_R_isWord 36 = .ok (.iload_n 1, 1) := by decide +kernel
theorem d_R_isWord_37 : decode k_R_isWord 37 = .ok (.isub, 1) := by decide +kernel
theorem d_R_isWord_38 : decode k_R_isWord 38 = .ok (.invokevirtual 187, 3) := by decide +kernel
theorem d_R_isWord_41 : decode k_R_isWord 41 = .ok (.if_icmp .eq 5, 3) := by decide +kernel
theorem d_R_isWord_44 : decode k_R_isWord 44 = .ok (.iconst 0, 1) := by decide +kernel
theorem d_R_isWord_45 : decode k_R_isWord 45 = .ok (.ireturn, 1) := by decide +kernel
theorem d_R_isWord_46 : decode k_R_isWord 46 = .ok (.iinc 3 1, 3) := by decide +kernel
theorem d_R_isWord_49 : decode k_R_isWord 49 = .ok (.goto (-32), 3) := by decide +kernel
theorem d_R_isWord_52 : decode k_R_isWord 52 = .ok (.iconst 1, 1) := by decide +kernel
theorem d_R_isWord_53 : decode k_R_isWord 53 = .ok (.ireturn, 1) := by decide +kernel
theorem d_R_pass_0 : decode k_R_pass 0 = .ok (.aload_n 0, 1) := by decide +kernel
theorem d_R_pass_1 : decode k_R_pass 1 = .ok (.invokevirtual 91, 3) := by decide +kernel
theorem d_R_pass_4 : decode k_R_pass 4 = .ok (.iload_n 1, 1) := by decide +kernel
theorem d_R_pass_5 : decode k_R_pass 5 = .ok (.if_icmp .eq 7, 3) := by decide +kernel
theorem d_R_pass_8 : decode k_R_pass 8 = .ok (.aload_n 0, 1) := by decide +kernel
theorem d_R_pass_9 : decode k_R_pass 9 = .ok (.invokevirtual 118, 3) := by decide +kernel
theorem d_R_pass_12 : decode k_R_pass 12 = .ok (.aload_n 0, 1) := by decide +kernel
theorem d_R_pass_13 : decode k_R_pass 13 = .ok (.dup, 1) := by decide +kernel
theorem d_R_pass_14 : decode k_R_pass 14 = .ok (.getfield 39, 3) := by decide +kernel
theorem d_R_pass_17 : decode k_R_pass 17 = .ok (.iconst 1, 1) := by decide +kernel
theorem d_R_pass_18 : decode k_R_pass 18 = .ok (.iadd, 1) := by decide +kernel
theorem d_R_pass_19 : decode k_R_pass 19 = .ok (.putfield 39, 3) := by decide +kernel
theorem d_R_pass_22 : decode k_R_pass 22 = .ok (.return_, 1) := by decide +kernel
theorem d_R_passSign_0 : decode k_R_passSign 0 = .ok (.aload_n 0, 1) := by decide +kernel
theorem d_R_passSign_1 : decode k_R_passSign 1 = .ok (.getfield 39, 3) := by decide +kernel
theorem d_R_passSign_4 : decode k_R_passSign 4 = .ok (.aload_n 0, 1) := by decide +kernel
theorem d_R_passSign_5 : decode k_R_passSign 5 = .ok (.getfield 36, 3) := by decide +kernel
theorem d_R_passSign_8 : decode k_R_passSign 8 = .ok (.if_icmp .ge 41, 3) := by decide +kernel
theorem d_R_passSign_11 : decode k_R_passSign 11 = .ok (.aload_n 0, 1) := by decide +kernel
theorem d_R_passSign_12 : decode k_R_passSign 12 = .ok (.getfield 18, 3) := by decide +kernel
theorem d_R_passSign_15 : decode k_R_passSign 15 = .ok (.aload_n 0, 1) := by decide +kernel
theorem d_R_passSign_16 : decode k_R_passSign 16 = .ok (.getfield 39, 3) := by decide +kernel
theorem d_R_passSign_19 : decode k_R_passSign 19 = .ok (.baload, 1) := by decide +kernel
theorem d_R_passSign_20 : decode k_R_passSign 20 = .ok (.bipush 43, 2) := by decide +kernel
theorem d_R_passSign_22 : decode k_R_passSign 22 = .ok (.if_icmp .eq 17, 3) := by decide +kernel
theorem d_R_passSign_25 : decode k_R_passSign 25 = .ok (.aload_n 0, 1) := by decide +kernel
theorem d_R_passSign_26 : decode k_R_passSign 26 = .ok (.getfield 18, 3) := by decide +kernel
theorem d_R_passSign_29 : decode k_R_passSign 29 = .ok (.aload_n 0, 1) := by decide +kernel
theorem d_R_passSign_30 : decode k_R_passSign 30 = .ok (.getfield 39, 3) := by decide +kernel
theorem d_R_passSign_33 : decode k_R_passSign 33 = .ok (.baload, 1) := by decide +kernel
theorem d_R_passSign_34 : decode k_R_passSign 34 = .ok (.bipush 45, 2) := by decide +kernel
theorem d_R_passSign_36 : decode k_R_passSign 36 = .ok (.if_icmp .ne 13, 3) := by decide +kernel
theorem d_R_passSign_39 : decode k_R_passSign 39 = .ok (.aload_n 0, 1) := by decide +kernel
theorem d_R_passSign_40 : decode k_R_passSign 40 = .ok (.dup, 1) := by decide +kernel
theorem d_R_passSign_41 : decode k_R_passSign 41 = .ok (.getfield 39, 3) := by decide +kernel
theorem d_R_passSign_44 : decode k_R_passSign 44 = .ok (.iconst 1, 1) := by decide +kernel
theorem d_R_passSign_45 : decode k_R_passSign 45 = .ok (.iadd, 1) := by decide +kernel
theorem d_R_passSign_46 : decode k_R_passSign 46 = .ok (.putfield 39, 3) := by decide +kernel
theorem d_R_passSign_49 : decode k_R_passSign 49 = .ok (.return_, 1) := by decide +kernel
theorem d_R_passDigits_0 : decode k_R_passDigits 0 = .ok (.aload_n 0, 1) := by decide +kernel
theorem d_R_passDigits_1 : decode k_R_passDigits 1 = .ok (.getfield 39, 3) := by decide +kernel
theorem d_R_passDigits_4 : decode k_R_passDigits 4 = .ok (.istore_n 1, 1) := by decide +kernel
theorem d_R_passDigits_5 : decode k_R_passDigits 5 = .ok (.aload_n 0, 1) := by decide +kernel
theorem d_R_passDigits_6 : decode k_R_passDigits 6 = .ok (.getfield 39, 3) := by decide +kernel
theorem d_R_passDigits_9 : decode k_R_passDigits 9 = .ok (.aload_n 0, 1) := by decide +kernel
theorem d_R_passDigits_10 : decode k_R_passDigits 10 = .ok (.getfield 36, 3) := by decide +kernel
theorem d_R_passDigits_13 : decode k_R_passDigits 13 = .ok (.if_icmp .ge 31, 3) := by decide +kernel
theorem d_R_passDigits_16 : decode k_R_passDigits 16 = .ok (.aload_n 0, 1) := by decide +kernel
theorem d_R_passDigits_17 : decode k_R_passDigits 17 = .ok (.getfield 18, 3) := by decide +kernel
theorem d_R_passDigits_20 : decode k_R_passDigits 20 = .ok (.aload_n 0, 1) := by decide +kernel
theorem d_R_passDigits_21 : decode k_R_passDigits 21 = .ok (.getfield 39, 3) := by decide +kernel
theorem d_R_passDigits_24 : decode k_R_passDigits 24 = .ok (.baload, 1) := by decide +kernel
theorem d_R_passDigits_25 : decode k_R_passDigits 25 = .ok (.invokestatic 163, 3) := by decide +kernel
theorem d_R_passDigits_28 : decode k_R_passDigits 28 = .ok (.ifCond .eq 16, 3) := by decide +kernel
theorem d_R_passDigits_31 : decode k_R_passDigits 31 = .ok (.aload_n 0, 1) := by decide +kernel
theorem d_R_passDigits_32 : decode k_R_passDigits 32 = .ok (.dup, 1) := by decide +kernel
theorem d_R_passDigits_33 : decode k_R_passDigits 33 = .ok (.getfield 39, 3) := by decide +kernel
theorem d_R_passDigits_36 : decode k_R_passDigits 36 = .ok (.iconst 1, 1) := by decide +kernel
theorem d_R_passDigits_37 : decode k_R_passDigits 37 = .ok (.iadd, 1) := by decide +kernel
theorem d_R_passDigits_38 : decode k_R_passDigits 38 = .ok (.putfield 39, 3) := by decide +kernel
theorem d_R_passDigits_41 : decode k_R_passDigits 41 = .ok (.goto (-36), 3) := by decide +kernel
theorem d_R_passDigits_44 : decode k_R_passDigits 44 = .ok (.aload_n 0, 1) := by decide +kernel
theorem d_R_passDigits_45 : decode k_R_passDigits 45 = .ok (.getfield 39, 3) := by decide +kernel
theorem d_R_passDigits_48 : decode k_R_passDigits 48 = .ok (.iload_n 1, 1) := by decide +kernel
theorem d_R_passDigits_49 : decode k_R_passDigits 49 = .ok (.isub, 1) := by decide +kernel
theorem d_R_passDigits_50 : decode k_R_passDigits 50 = .ok (.ireturn, 1) := by decide +kernel
theorem d_R_passLetters_0 : decode k_R_passLetters 0 = .ok (.aload_n 0, 1) := by decide +kernel
theorem d_R_passLetters_1 : decode k_R_passLetters 1 = .ok (.getfield 39, 3) := by decide +kernel
theorem d_R_passLetters_4 : decode k_R_passLetters 4 = .ok (.aload_n 0, 1) := by decide +kernel
theorem d_R_passLetters_5 : decode k_R_passLetters 5 = .ok (.getfield 36, 3) := by decide +kernel
theorem d_R_passLetters_8 : decode k_R_passLetters 8 = .ok (.if_icmp .ge 31, 3) := by decide +kernel
theorem d_R_passLetters_11 : decode k_R_passLetters 11 = .ok (.aload_n 0, 1) := by decide +kernel
theorem d_R_passLetters_12 : decode k_R_passLetters 12 = .ok (.getfield 18, 3) := by decide +kernel
theorem d_R_passLetters_15 : decode k_R_passLetters 15 = .ok (.aload_n 0, 1) := by decide +kernel
theorem d_R_passLetters_16 : decode k_R_passLetters 16 = .ok (.getfield 39, 3) := by decide +kernel
theorem d_R_passLetters_19 : decode k_R_passLetters 19 = .ok (.baload, 1) := by decide +kernel
theorem d_R_passLetters_20 : decode k_R_passLetters 20 = .ok (.invokestatic 115, 3) := by decide +kernel
theorem d_R_passLetters_23 : decode k_R_passLetters 23 = .ok (.ifCond .eq 16, 3) := by decide +kernel
theorem d_R_passLetters_26 : decode k_R_passLetters 26 = .ok (.aload_n 0, 1) := by decide +kernel
theorem d_R_passLetters_27 : decode k_R_passLetters 27 = .ok (.dup, 1) := by decide +kernel
theorem d_R_passLetters_28 : decode k_R_passLetters 28 = .ok (.getfield 39, 3) := by decide +kernel
theorem d_R_passLetters_31 : decode k_R_passLetters 31 = .ok (.iconst 1, 1) := by decide +kernel
theorem d_R_passLetters_32 : decode k_R_passLetters 32 = .ok (.iadd, 1) := by decide +kernel
theorem d_R_passLetters_33 : decode k_R_passLetters 33 = .ok (.putfield 39, 3) := by decide +kernel
theorem d_R_passLetters_36 : decode k_R_passLetters 36 = .ok (.goto (-36), 3) := by decide +kernel
theorem d_R_passLetters_39 : decode k_R_passLetters 39 = .ok (.return_, 1) := by decide +kernel
theorem d_R_skipBlanks_0 : decode k_R_skipBlanks 0 = .ok (.aload_n 0, 1) := by decide +kernel
theorem d_R_skipBlanks_1 : decode k_R_skipBlanks 1 = .ok (.getfield 39, 3) := by decide +kernel
theorem d_R_skipBlanks_4 : decode k_R_skipBlanks 4 = .ok (.aload_n 0, 1) := by decide +kernel
theorem d_R_skipBlanks_5 : decode k_R_skipBlanks 5 = .ok (.getfield 36, 3) := by decide +kernel
theorem d_R_skipBlanks_8 : decode k_R_skipBlanks 8 = .ok (.if_icmp .ge 31, 3) := by decide +kernel
theorem d_R_skipBlanks_11 : decode k_R_skipBlanks 11 = .ok (.aload_n 0, 1) := by decide +kernel
theorem d_R_skipBlanks_12 : decode k_R_skipBlanks 12 = .ok (.getfield 18, 3) := by decide +kernel
theorem d_R_skipBlanks_15 : decode k_R_skipBlanks 15 = .ok (.aload_n 0, 1) := by decide +kernel
theorem d_R_skipBlanks_16 : decode k_R_skipBlanks 16 = .ok (.getfield 39, 3) := by decide +kernel
theorem d_R_skipBlanks_19 : decode k_R_skipBlanks 19 = .ok (.baload, 1) := by decide +kernel
theorem d_R_skipBlanks_20 : decode k_R_skipBlanks 20 = .ok (.invokestatic 191, 3) := by decide +kernel
theorem d_R_skipBlanks_23 : decode k_R_skipBlanks 23 = .ok (.ifCond .eq 16, 3) := by decide +kernel
theorem d_R_skipBlanks_26 : decode k_R_skipBlanks 26 = .ok (.aload_n 0, 1) := by decide +kernel
theorem d_R_skipBlanks_27 : decode k_R_skipBlanks 27 = .ok (.dup, 1) := by decide +kernel
theorem d_R_skipBlanks_28 : decode k_R_skipBlanks 28 = .ok (.getfield 39, 3) := by decide +kernel
theorem d_R_skipBlanks_31 : decode k_R_skipBlanks 31 = .ok (.iconst 1, 1) := by decide +kernel
theorem d_R_skipBlanks_32 : decode k_R_skipBlanks 32 = .ok (.iadd, 1) := by decide +kernel
theorem d_R_skipBlanks_33 : decode k_R_skipBlanks 33 = .ok (.putfield 39, 3) := by decide +kernel
theorem d_R_skipBlanks_36 : decode k_R_skipBlanks 36 = .ok (.goto (-36), 3) := by decide +kernel
theorem d_R_skipBlanks_39 : decode k_R_skipBlanks 39 = .ok (.return_, 1) := by decide +kernel
theorem d_R_here_0 : decode k_R_here 0 = .ok (.aload_n 0, 1) := by decide +kernel
theorem d_R_here_1 : decode k_R_here 1 = .ok (.getfield 39, 3) := by decide +kernel
theorem d_R_here_4 : decode k_R_here 4 = .ok (.aload_n 0, 1) := by decide +kernel
theorem d_R_here_5 : decode k_R_here 5 = .ok (.getfield 36, 3) := by decide +kernel
theorem d_R_here_8 : decode k_R_here 8 = .ok (.if_icmp .ge 19, 3) := by decide +kernel
theorem d_R_here_11 : decode k_R_here 11 = .ok (.aload_n 0, 1) := by decide +kernel
theorem d_R_here_12 : decode k_R_here 12 = .ok (.getfield 18, 3) := by decide +kernel
theorem d_R_here_15 : decode k_R_here 15 = .ok (.aload_n 0, 1) := by decide +kernel
theorem d_R_here_16 : decode k_R_here 16 = .ok (.getfield 39, 3) := by decide +kernel
theorem d_R_here_19 : decode k_R_here 19 = .ok (.baload, 1) := by decide +kernel
theorem d_R_here_20 : decode k_R_here 20 = .ok (.sipush 255, 3) := by decide +kernel
theorem d_R_here_23 : decode k_R_here 23 = .ok (.iand, 1) := by decide +kernel
theorem d_R_here_24 : decode k_R_here 24 = .ok (.goto 4, 3) := by decide +kernel
theorem d_R_here_27 : decode k_R_here 27 = .ok (.iconst (-1), 1) := by decide +kernel
theorem d_R_here_28 : decode k_R_here 28 = .ok (.ireturn, 1) := by decide +kernel
theorem d_R_failHere_0 : decode k_R_failHere 0 = .ok (.aload_n 0, 1) := by decide +kernel
theorem d_R_failHere_1 : decode k_R_failHere 1 = .ok (.invokevirtual 91, 3) := by decide +kernel
theorem d_R_failHere_4 : decode k_R_failHere 4 = .ok (.istore_n 1, 1) := by decide +kernel
theorem d_R_failHere_5 : decode k_R_failHere 5 = .ok (.iload_n 1, 1) := by decide +kernel
theorem d_R_failHere_6 : decode k_R_failHere 6 = .ok (.invokestatic 115, 3) := by decide +kernel
theorem d_R_failHere_9 : decode k_R_failHere 9 = .ok (.ifCond .ne 28, 3) := by decide +kernel
theorem d_R_failHere_12 : decode k_R_failHere 12 = .ok (.iload_n 1, 1) := by decide +kernel
theorem d_R_failHere_13 : decode k_R_failHere 13 = .ok (.invokestatic 94, 3) := by decide +kernel
theorem d_R_failHere_16 : decode k_R_failHere 16 = .ok (.ifCond .ne 21, 3) := by decide +kernel
theorem d_R_failHere_19 : decode k_R_failHere 19 = .ok (.iload_n 1, 1) := by decide +kernel
theorem d_R_failHere_20 : decode k_R_failHere 20 = .ok (.bipush 40, 2) := by decide +kernel
theorem d_R_failHere_22 : decode k_R_failHere 22 = .ok (.if_icmp .eq 15, 3) := by decide +kernel
theorem d_R_failHere_25 : decode k_R_failHere 25 = .ok (.iload_n 1, 1) := by decide +kernel
theorem d_R_failHere_26 : decode k_R_failHere 26 = .ok (.bipush 41, 2) := by decide +kernel
theorem d_R_failHere_28 : decode k_R_failHere 28 = .ok (.if_icmp .eq 9, 3) := by decide +kernel
theorem d_R_failHere_31 : decode k_R_failHere 31 = .ok (.iload_n 1, 1) := by decide +kernel
theorem d_R_failHere_32 : decode k_R_failHere 32 = .ok (.bipush 44, 2) := by decide +kernel
theorem d_R_failHere_34 : decode k_R_failHere 34 = .ok (.if_icmp .ne 7, 3) := by decide +kernel
theorem d_R_failHere_37 : decode k_R_failHere 37 = .ok (.iconst 1, 1) := by decide +kernel
theorem d_R_failHere_38 : decode k_R_failHere 38 = .ok (.goto 4, 3) := by decide +kernel
theorem d_R_failHere_41 : decode k_R_failHere 41 = .ok (.iconst 0, 1) := by decide +kernel
theorem d_R_failHere_42 : decode k_R_failHere 42 = .ok (.istore_n 2, 1) := by decide +kernel
theorem d_R_failHere_43 : decode k_R_failHere 43 = .ok (.aload_n 0, 1) := by decide +kernel
theorem d_R_failHere_44 : decode k_R_failHere 44 = .ok (.iload_n 1, 1) := by decide +kernel
theorem d_R_failHere_45 : decode k_R_failHere 45 = .ok (.iconst (-1), 1) := by decide +kernel
theorem d_R_failHere_46 : decode k_R_failHere 46 = .ok (.if_icmp .eq 7, 3) := by decide +kernel
theorem d_R_failHere_49 : decode k_R_failHere 49 = .ok (.iload_n 2, 1) := by decide +kernel
theorem d_R_failHere_50 : decode k_R_failHere 50 = .ok (.ifCond .eq 7, 3) := by decide +kernel
theorem d_R_failHere_53 : decode k_R_failHere 53 = .ok (.iconst 3, 1) := by decide +kernel
theorem d_R_failHere_54 : decode k_R_failHere 54 = .ok (.goto 4, 3) := by decide +kernel
theorem d_R_failHere_57 : decode k_R_failHere 57 = .ok (.iconst 1, 1) := by decide +kernel
theorem d_R_failHere_58 : decode k_R_failHere 58 = .ok (.aload_n 0, 1) := by decide +kernel
theorem d_R_failHere_59 : decode k_R_failHere 59 = .ok (.getfield 39, 3) := by decide +kernel
theorem d_R_failHere_62 : decode k_R_failHere 62 = .ok (.invokevirtual 67, 3) := by decide +kernel
theorem d_R_failHere_65 : decode k_R_failHere 65 = .ok (.return_, 1) := by decide +kernel
theorem d_R_fail_0 : decode k_R_fail 0 = .ok (.aload_n 0, 1) := by decide +kernel
theorem d_R_fail_1 : decode k_R_fail 1 = .ok (.iload_n 1, 1) := by decide +kernel
theorem d_R_fail_2 : decode k_R_fail 2 = .ok (.putfield 42, 3) := by decide +kernel
theorem d_R_fail_5 : decode k_R_fail 5 = .ok (.aload_n 0, 1) := by decide +kernel
theorem d_R_fail_6 : decode k_R_fail 6 = .ok (.iload_n 2, 1) := by decide +kernel
theorem d_R_fail_7 : decode k_R_fail 7 = .ok (.putfield 45, 3) := by decide +kernel
theorem d_R_fail_10 : decode k_R_fail 10 = .ok (.new 194, 3) := by decide +kernel
theorem d_R_fail_13 : decode k_R_fail 13 = .ok (.dup, 1) := by decide +kernel
theorem d_R_fail_14 : decode k_R_fail 14 = .ok (.ldc 196, 2) := by decide +kernel
theorem d_R_fail_16 : decode k_R_fail 16 = .ok (.invokespecial 198, 3) := by decide +kernel
theorem d_R_fail_19 : decode k_R_fail 19 = .ok (.athrow, 1) := by decide +kernel
theorem d_R_isBlank_0 : decode k_R_isBlank 0 = .ok (.iload_n 0, 1) := by decide +kernel
theorem d_R_isBlank_1 : decode k_R_isBlank 1 = .ok (.bipush 32, 2) := by decide +kernel
theorem d_R_isBlank_3 : decode k_R_isBlank 3 = .ok (.if_icmp .eq 21, 3) := by decide +kernel
theorem d_R_isBlank_6 : decode k_R_isBlank 6 = .ok (.iload_n 0, 1) := by decide +kernel
theorem d_R_isBlank_7 : decode k_R_isBlank 7 = .ok (.bipush 9, 2) := by decide +kernel
theorem d_R_isBlank_9 : decode k_R_isBlank 9 = .ok (.if_icmp .eq 15, 3) := by decide +kernel
theorem d_R_isBlank_12 : decode k_R_isBlank 12 = .ok (.iload_n 0, 1) := by decide +kernel
theorem d_R_isBlank_13 : decode k_R_isBlank 13 = .ok (.bipush 10, 2) := by decide +kernel
theorem d_R_isBlank_15 : decode k_R_isBlank 15 = .ok (.if_icmp .eq 9, 3) := by decide +kernel
theorem d_R_isBlank_18 : decode k_R_isBlank 18 = .ok (.iload_n 0, 1) := by decide +kernel
theorem d_R_isBlank_19 : decode k_R_isBlank 19 = .ok (.bipush 13, 2) := by decide +kernel
theorem d_R_isBlank_21 : decode k_R_isBlank 21 = .ok (.if_icmp .ne 7, 3) := by decide +kernel
theorem d_R_isBlank_24 : decode k_R_isBlank 24 = .ok (.iconst 1, 1) := by decide +kernel
theorem d_R_isBlank_25 : decode k_R_isBlank 25 = .ok (.goto 4, 3) := by decide +kernel
theorem d_R_isBlank_28 : decode k_R_isBlank 28 = .ok (.iconst 0, 1) := by decide +kernel
theorem d_R_isBlank_29 : decode k_R_isBlank 29 = .ok (.ireturn, 1) := by decide +kernel
theorem d_R_isLetter_0 : decode k_R_isLetter 0 = .ok (.iload_n 0, 1) := by decide +kernel
theorem d_R_isLetter_1 : decode k_R_isLetter 1 = .ok (.bipush 65, 2) := by decide +kernel
theorem d_R_isLetter_3 : decode k_R_isLetter 3 = .ok (.if_icmp .lt 9, 3) := by decide +kernel
theorem d_R_isLetter_6 : decode k_R_isLetter 6 = .ok (.iload_n 0, 1) := by decide +kernel
theorem d_R_isLetter_7 : decode k_R_isLetter 7 = .ok (.bipush 90, 2) := by decide +kernel
theorem d_R_isLetter_9 : decode k_R_isLetter 9 = .ok (.if_icmp .le 15, 3) := by decide +kernel
theorem d_R_isLetter_12 : decode k_R_isLetter 12 = .ok (.iload_n 0, 1) := by decide +kernel
theorem d_R_isLetter_13 : decode k_R_isLetter 13 = .ok (.bipush 97, 2) := by decide +kernel
theorem d_R_isLetter_15 : decode k_R_isLetter 15 = .ok (.if_icmp .lt 13, 3) := by decide +kernel
theorem d_R_isLetter_18 : decode k_R_isLetter 18 = .ok (.iload_n 0, 1) := by decide +kernel
theorem d_R_isLetter_19 : decode k_R_isLetter 19 = .ok (.bipush 122, 2) := by decide +kernel
theorem d_R_isLetter_21 : decode k_R_isLetter 21 = .ok (.if_icmp .gt 7, 3) := by decide +kernel
theorem d_R_isLetter_24 : decode k_R_isLetter 24 = .ok (.iconst 1, 1) := by decide +kernel
theorem d_R_isLetter_25 : decode k_R_isLetter 25 = .ok (.goto 4, 3) := by decide +kernel
theorem d_R_isLetter_28 : decode k_R_isLetter 28 = .ok (.iconst 0, 1) := by decide +kernel
theorem d_R_isLetter_29 : decode k_R_isLetter 29 = .ok (.ireturn, 1) := by decide +kernel
theorem d_R_isDigit_0 : decode k_R_isDigit 0 = .ok (.iload_n 0, 1) := by decide +kernel
theorem d_R_isDigit_1 : decode k_R_isDigit 1 = .ok (.bipush 48, 2) := by decide +kernel
theorem d_R_isDigit_3 : decode k_R_isDigit 3 = .ok (.if_icmp .lt 13, 3) := by decide +kernel
theorem d_R_isDigit_6 : decode k_R_isDigit 6 = .ok (.iload_n 0, 1) := by decide +kernel
theorem d_R_isDigit_7 : decode k_R_isDigit 7 = .ok (.bipush 57, 2) := by decide +kernel
theorem d_R_isDigit_9 : decode k_R_isDigit 9 = .ok (.if_icmp .gt 7, 3) := by decide +kernel
theorem d_R_isDigit_12 : decode k_R_isDigit 12 = .ok (.iconst 1, 1) := by decide +kernel
theorem d_R_isDigit_13 : decode k_R_isDigit 13 = .ok (.goto 4, 3) := by decide +kernel
theorem d_R_isDigit_16 : decode k_R_isDigit 16 = .ok (.iconst 0, 1) := by decide +kernel
theorem d_R_isDigit_17 : decode k_R_isDigit 17 = .ok (.ireturn, 1) := by decide +kernel
theorem d_R_beginsNumber_0 : decode k_R_beginsNumber 0 = .ok (.iload_n 0, 1) := by decide +kernel
theorem d_R_beginsNumber_1 : decode k_R_beginsNumber 1 = .ok (.bipush 48, 2) := by decide +kernel
theorem d_R_beginsNumber_3 : decode k_R_beginsNumber 3 = .ok (.if_icmp .lt 9, 3) := by decide +kernel
theorem d_R_beginsNumber_6 : decode k_R_beginsNumber 6 = .ok (.iload_n 0, 1) := by decide +kernel
theorem d_R_beginsNumber_7 : decode k_R_beginsNumber 7 = .ok (.bipush 57, 2) := by decide +kernel
theorem d_R_beginsNumber_9 : decode k_R_beginsNumber 9 = .ok (.if_icmp .le 21, 3) := by decide +kernel
theorem d_R_beginsNumber_12 : decode k_R_beginsNumber 12 = .ok (.iload_n 0, 1) := by decide +kernel
theorem d_R_beginsNumber_13 : decode k_R_beginsNumber 13 = .ok (.bipush 43, 2) := by decide +kernel
theorem d_R_beginsNumber_15 : decode k_R_beginsNumber 15 = .ok (.if_icmp .eq 15, 3) := by decide +kernel
theorem d_R_beginsNumber_18 : decode k_R_beginsNumber 18 = .ok (.iload_n 0, 1) := by decide +kernel
theorem d_R_beginsNumber_19 : decode k_R_beginsNumber 19 = .ok (.bipush 45, 2) := by decide +kernel
theorem d_R_beginsNumber_21 : decode k_R_beginsNumber 21 = .ok (.if_icmp .eq 9, 3) := by decide +kernel
theorem d_R_beginsNumber_24 : decode k_R_beginsNumber 24 = .ok (.iload_n 0, 1) := by decide +kernel
theorem d_R_beginsNumber_25 : decode k_R_beginsNumber 25 = .ok (.bipush 46, 2) := by decide +kernel
theorem d_R_beginsNumber_27 : decode k_R_beginsNumber 27 = .ok (.if_icmp .ne 7, 3) := by decide +kernel
theorem d_R_beginsNumber_30 : decode k_R_beginsNumber 30 = .ok (.iconst 1, 1) := by decide +kernel
theorem d_R_beginsNumber_31 : decode k_R_beginsNumber 31 = .ok (.goto 4, 3) := by decide +kernel
theorem d_R_beginsNumber_34 : decode k_R_beginsNumber 34 = .ok (.iconst 0, 1) := by decide +kernel
theorem d_R_beginsNumber_35 : decode k_R_beginsNumber 35 = .ok (.ireturn, 1) := by decide +kernel
