theorem d_M_rings_37 : decode k_M_rings 37 = .ok (.invokevirtual 138, 3) := by decide +kernel
theorem d_M_rings_40 : decode k_M_rings 40 = .ok (.aload_n 0, 1) := by decide +kernel
theorem d_M_rings_41 : decode k_M_rings 41 = .ok (.getfield 23, 3) := by decide +kernel
theorem d_M_rings_44 : decode k_M_rings 44 = .ok (.aload_n 0, 1) := by decide +kernel
theorem d_M_rings_45 : decode k_M_rings 45 = .ok (.getfield 135, 3) := by decide +kernel
theorem d_M_rings_48 : decode k_M_rings 48 = .ok (.iaload, 1) := by decide +kernel
theorem d_M_rings_49 : decode k_M_rings 49 = .ok (.iconst 1, 1) := by decide +kernel
theorem d_M_rings_50 : decode k_M_rings 50 = .ok (.isub, 1) := by decide +kernel
theorem d_M_rings_51 : decode k_M_rings 51 = .ok (.istore_n 3, 1) := by decide +kernel
theorem d_M_rings_52 : decode k_M_rings 52 = .ok (.aload_n 0, 1) := by decide +kernel
theorem d_M_rings_53 : decode k_M_rings 53 = .ok (.bipush 40, 2) := by decide +kernel
theorem d_M_rings_55 : decode k_M_rings 55 = .ok (.invokevirtual 154, 3) := by decide +kernel
theorem d_M_rings_58 : decode k_M_rings 58 = .ok (.ifCond .eq 10, 3) := by decide +kernel
theorem d_M_rings_61 : decode k_M_rings 61 = .ok (.aload_n 0, 1) := by decide +kernel
theorem d_M_rings_62 : decode k_M_rings 62 = .ok (.invokevirtual 157, 3) := by decide +kernel
theorem d_M_rings_65 : decode k_M_rings 65 = .ok (.goto 4, 3) := by decide +kernel
theorem d_M_rings_68 : decode k_M_rings 68 = .ok (.iconst (-1), 1) := by decide +kernel
theorem d_M_rings_69 : decode k_M_rings 69 = .ok (.istore 4, 2) := by decide +kernel
theorem d_M_rings_71 : decode k_M_rings 71 = .ok (.iload 4, 2) := by decide +kernel
theorem d_M_rings_73 : decode k_M_rings 73 = .ok (.ifCond .ge 5, 3) := by decide +kernel
theorem d_M_rings_76 : decode k_M_rings 76 = .ok (.iconst (-1), 1) := by decide +kernel
theorem d_M_rings_77 : decode k_M_rings 77 = .ok (.ireturn, 1) := by decide +kernel
theorem d_M_rings_78 : decode k_M_rings 78 = .ok (.aload_n 0, 1) := by decide +kernel
theorem d_M_rings_79 : decode k_M_rings 79 = .ok (.iload_n 3, 1) := by decide +kernel
theorem d_M_rings_80 : decode k_M_rings 80 = .ok (.iload 4, 2) := by decide +kernel
theorem d_M_rings_82 : decode k_M_rings 82 = .ok (.invokevirtual 160, 3) := by decide +kernel
theorem d_M_rings_85 : decode k_M_rings 85 = .ok (.iinc 1 1, 3) := by decide +kernel
theorem d_M_rings_88 : decode k_M_rings 88 = .ok (.aload_n 0, 1) := by decide +kernel
theorem d_M_rings_89 : decode k_M_rings 89 = .ok (.invokevirtual 151, 3) := by decide +kernel
theorem d_M_rings_92 : decode k_M_rings 92 = .ok (.istore_n 2, 1) := by decide +kernel
theorem d_M_rings_93 : decode k_M_rings 93 = .ok (.goto (-89), 3) := by decide +kernel
theorem d_M_rings_96 : decode k_M_rings 96 = .ok (.iload_n 2, 1) := by decide +kernel
theorem d_M_rings_97 : decode k_M_rings 97 = .ok (.ifCond .ge 7, 3) := by decide +kernel
theorem d_M_rings_100 : decode k_M_rings 100 = .ok (.iconst (-1), 1) := by decide +kernel
theorem d_M_rings_101 : decode k_M_rings 101 = .ok (.goto 4, 3) := by decide +kernel
theorem d_M_rings_104 : decode k_M_rings 104 = .ok (.iload_n 1, 1) := by decide +kernel
theorem d_M_rings_105 : decode k_M_rings 105 = .ok (.ireturn, 1) := by decide +kernel
theorem d_M_simple_0 : decode k_M_simple 0 = .ok (.iload_n 1, 1) := by decide +kernel
theorem d_M_simple_1 : decode k_M_simple 1 = .ok (.iconst 3, 1) := by decide +kernel
theorem d_M_simple_2 : decode k_M_simple 2 = .ok (.if_icmp .ne 8, 3) := by decide +kernel
theorem d_M_simple_5 : decode k_M_simple 5 = .ok (.aload_n 0, 1) := by decide +kernel
theorem d_M_simple_6 : decode k_M_simple 6 = .ok (.invokevirtual 164, 3) := by decide +kernel
theorem d_M_simple_9 : decode k_M_simple 9 = .ok (.ireturn, 1) := by decide +kernel
theorem d_M_simple_10 : decode k_M_simple 10 = .ok (.iload_n 1, 1) := by decide +kernel
theorem d_M_simple_11 : decode k_M_simple 11 = .ok (.iconst 2, 1) := by decide +kernel
theorem d_M_simple_12 : decode k_M_simple 12 = .ok (.if_icmp .ne 8, 3) := by decide +kernel
theorem d_M_simple_15 : decode k_M_simple 15 = .ok (.aload_n 0, 1) := by decide +kernel
theorem d_M_simple_16 : decode k_M_simple 16 = .ok (.invokevirtual 157, 3) := by decide +kernel
theorem d_M_simple_19 : decode k_M_simple 19 = .ok (.ireturn, 1) := by decide +kernel
theorem d_M_simple_20 : decode k_M_simple 20 = .ok (.aload_n 0, 1) := by decide +kernel
theorem d_M_simple_21 : decode k_M_simple 21 = .ok (.invokevirtual 148, 3) := by decide +kernel
theorem d_M_simple_24 : decode k_M_simple 24 = .ok (.ifCond .eq 16, 3) := by decide +kernel
theorem d_M_simple_27 : decode k_M_simple 27 = .ok (.aload_n 0, 1) := by decide +kernel
theorem d_M_simple_28 : decode k_M_simple 28 = .ok (.bipush 41, 2) := by decide +kernel
theorem d_M_simple_30 : decode k_M_simple 30 = .ok (.invokevirtual 154, 3) := by decide +kernel
theorem d_M_simple_33 : decode k_M_simple 33 = .ok (.ifCond .eq 7, 3) := by decide +kernel
theorem d_M_simple_36 : decode k_M_simple 36 = .ok (.iconst 1, 1) := by decide +kernel
theorem d_M_simple_37 : decode k_M_simple 37 = .ok (.goto 4, 3) := by decide +kernel
theorem d_M_simple_40 : decode k_M_simple 40 = .ok (.iconst (-1), 1) := by decide +kernel
theorem d_M_simple_41 : decode k_M_simple 41 = .ok (.ireturn, 1) := by decide +kernel
theorem d_M_looked_0 : decode k_M_looked 0 = .ok (.aload_n 0, 1) := by decide +kernel
theorem d_M_looked_1 : decode k_M_looked 1 = .ok (.invokevirtual 106, 3) := by decide +kernel
theorem d_M_looked_4 : decode k_M_looked 4 = .ok (.aload_n 0, 1) := by decide +kernel
theorem d_M_looked_5 : decode k_M_looked 5 = .ok (.invokevirtual 95, 3) := by decide +kernel
theorem d_M_looked_8 : decode k_M_looked 8 = .ok (.istore_n 2, 1) := by decide +kernel
theorem d_M_looked_9 : decode k_M_looked 9 = .ok (.iload_n 2, 1) := by decide +kernel
theorem d_M_looked_10 : decode k_M_looked 10 = .ok (.bipush 40, 2) := by decide +kernel
theorem d_M_looked_12 : decode k_M_looked 12 = .ok (.if_icmp .ne 15, 3) := by decide +kernel
theorem d_M_looked_15 : decode k_M_looked 15 = .ok (.aload_n 0, 1) := by decide +kernel
theorem d_M_looked_16 : decode k_M_looked 16 = .ok (.dup, 1) := by decide +kernel
theorem d_M_looked_17 : decode k_M_looked 17 = .ok (.getfield 83, 3) := by decide +kernel
theorem d_M_looked_20 : decode k_M_looked 20 = .ok (.iconst 1, 1) := by decide +kernel
theorem d_M_looked_21 : decode k_M_looked 21 = .ok (.iadd, 1) := by decide +kernel
theorem d_M_looked_22 : decode k_M_looked 22 = .ok (.putfield 83, 3) := by decide +kernel
theorem d_M_looked_25 : decode k_M_looked 25 = .ok (.iconst 1, 1) := by decide +kernel
theorem d_M_looked_26 : decode k_M_looked 26 = .ok (.ireturn, 1) := by decide +kernel
theorem d_M_looked_27 : decode k_M_looked 27 = .ok (.iload_n 1, 1) := by decide +kernel
theorem d_M_looked_28 : decode k_M_looked 28 = .ok (.ifCond .eq 25, 3) := by decide +kernel
theorem d_M_looked_31 : decode k_M_looked 31 = .ok (.iload_n 2, 1) := by decide +kernel
theorem d_M_looked_32 : decode k_M_looked 32 = .ok (.invokestatic 80, 3) := by decide +kernel
theorem d_M_looked_35 : decode k_M_looked 35 = .ok (.ifCond .ne 16, 3) := by decide +kernel
theorem d_M_looked_38 : decode k_M_looked 38 = .ok (.iload_n 2, 1) := by decide +kernel
theorem d_M_looked_39 : decode k_M_looked 39 = .ok (.invokestatic 77, 3) := by decide +kernel
theorem d_M_looked_42 : decode k_M_looked 42 = .ok (.ifCond .ne 9, 3) := by decide +kernel
theorem d_M_looked_45 : decode k_M_looked 45 = .ok (.iload_n 2, 1) := by decide +kernel
theorem d_M_looked_46 : decode k_M_looked 46 = .ok (.bipush 46, 2) := by decide +kernel
theorem d_M_looked_48 : decode k_M_looked 48 = .ok (.if_icmp .ne 5, 3) := by decide +kernel
theorem d_M_looked_51 : decode k_M_looked 51 = .ok (.iconst 2, 1) := by decide +kernel
theorem d_M_looked_52 : decode k_M_looked 52 = .ok (.ireturn, 1) := by decide +kernel
theorem d_M_looked_53 : decode k_M_looked 53 = .ok (.iload_n 2, 1) := by decide +kernel
theorem d_M_looked_54 : decode k_M_looked 54 = .ok (.invokestatic 73, 3) := by decide +kernel
theorem d_M_looked_57 : decode k_M_looked 57 = .ok (.ifCond .ne 10, 3) := by decide +kernel
theorem d_M_looked_60 : decode k_M_looked 60 = .ok (.aload_n 0, 1) := by decide +kernel
theorem d_M_looked_61 : decode k_M_looked 61 = .ok (.invokevirtual 109, 3) := by decide +kernel
theorem d_M_looked_64 : decode k_M_looked 64 = .ok (.pop, 1) := by decide +kernel
theorem d_M_looked_65 : decode k_M_looked 65 = .ok (.iconst (-1), 1) := by decide +kernel
theorem d_M_looked_66 : decode k_M_looked 66 = .ok (.ireturn, 1) := by decide +kernel
theorem d_M_looked_67 : decode k_M_looked 67 = .ok (.aload_n 0, 1) := by decide +kernel
theorem d_M_looked_68 : decode k_M_looked 68 = .ok (.getfield 83, 3) := by decide +kernel
theorem d_M_looked_71 : decode k_M_looked 71 = .ok (.istore_n 3, 1) := by decide +kernel
theorem d_M_looked_72 : decode k_M_looked 72 = .ok (.aload_n 0, 1) := by decide +kernel
theorem d_M_looked_73 : decode k_M_looked 73 = .ok (.invokevirtual 167, 3) := by decide +kernel
theorem d_M_looked_76 : decode k_M_looked 76 = .ok (.bipush 8, 2) := by decide +kernel
theorem d_M_looked_78 : decode k_M_looked 78 = .ok (.if_icmp .ne 5, 3) := by decide +kernel
theorem d_M_looked_81 : decode k_M_looked 81 = .ok (.iconst 0, 1) := by decide +kernel
theorem d_M_looked_82 : decode k_M_looked 82 = .ok (.ireturn, 1) := by decide +kernel
theorem d_M_looked_83 : decode k_M_looked 83 = .ok (.aload_n 0, 1) := by decide +kernel
theorem d_M_looked_84 : decode k_M_looked 84 = .ok (.iconst 2, 1) := by decide +kernel
theorem d_M_looked_85 : decode k_M_looked 85 = .ok (.iload_n 3, 1) := by decide +kernel
theorem d_M_looked_86 : decode k_M_looked 86 = .ok (.invokevirtual 102, 3) := by decide +kernel
theorem d_M_looked_89 : decode k_M_looked 89 = .ok (.pop, 1) := by decide +kernel
theorem d_M_looked_90 : decode k_M_looked 90 = .ok (.iconst (-1), 1) := by decide +kernel
theorem d_M_looked_91 : decode k_M_looked 91 = .ok (.ireturn, 1) := by decide +kernel
theorem d_M_parts_0 : decode k_M_parts 0 = .ok (.iconst 0, 1) := by decide +kernel
theorem d_M_parts_1 : decode k_M_parts 1 = .ok (.istore_n 2, 1) := by decide +kernel
theorem d_M_parts_2 : decode k_M_parts 2 = .ok (.iconst 1, 1) := by decide +kernel
theorem d_M_parts_3 : decode k_M_parts 3 = .ok (.istore_n 3, 1) := by decide +kernel
theorem d_M_parts_4 : decode k_M_parts 4 = .ok (.iload_n 3, 1) := by decide +kernel
theorem d_M_parts_5 : decode k_M_parts 5 = .ok (.iconst 1, 1) := by decide +kernel
theorem d_M_parts_6 : decode k_M_parts 6 = .ok (.if_icmp .ne 126, 3) := by decide +kernel
theorem d_M_parts_9 : decode k_M_parts 9 = .ok (.aload_n 0, 1) := by decide +kernel
theorem d_M_parts_10 : decode k_M_parts 10 = .ok (.invokevirtual 106, 3) := by decide +kernel
theorem d_M_parts_13 : decode k_M_parts 13 = .ok (.aload_n 0, 1) := by decide +kernel
theorem d_M_parts_14 : decode k_M_parts 14 = .ok (.iconst 2, 1) := by decide +kernel
theorem d_M_parts_15 : decode k_M_parts 15 = .ok (.iconst 0, 1) := by decide +kernel
theorem d_M_parts_16 : decode k_M_parts 16 = .ok (.invokevirtual 142, 3) := by decide +kernel
theorem d_M_parts_19 : decode k_M_parts 19 = .ok (.ifCond .ne 16, 3) := by decide +kernel
theorem d_M_parts_22 : decode k_M_parts 22 = .ok (.aload_n 0, 1) := by decide +kernel
theorem d_M_parts_23 : decode k_M_parts 23 = .ok (.bipush 7, 2) := by decide +kernel
theorem d_M_parts_25 : decode k_M_parts 25 = .ok (.aload_n 0, 1) := by decide +kernel
theorem d_M_parts_26 : decode k_M_parts 26 = .ok (.getfield 83, 3) := by decide +kernel
theorem d_M_parts_29 : decode k_M_parts 29 = .ok (.invokevirtual 102, 3) := by decide +kernel
theorem d_M_parts_32 : decode k_M_parts 32 = .ok (.pop, 1) := by decide +kernel
theorem d_M_parts_33 : decode k_M_parts 33 = .ok (.iconst (-1), 1) := by decide +kernel
theorem d_M_parts_34 : decode k_M_parts 34 = .ok (.ireturn, 1) := by decide +kernel
theorem d_M_parts_35 : decode k_M_parts 35 = .ok (.aload_n 0, 1) := by decide +kernel
theorem d_M_parts_36 : decode k_M_parts 36 = .ok (.iload_n 1, 1) := by decide +kernel
theorem d_M_parts_37 : decode k_M_parts 37 = .ok (.iconst 3, 1) := by decide +kernel
theorem d_M_parts_38 : decode k_M_parts 38 = .ok (.isub, 1) := by decide +kernel
theorem d_M_parts_39 : decode k_M_parts 39 = .ok (.invokevirtual 170, 3) := by decide +kernel
theorem d_M_parts_42 : decode k_M_parts 42 = .ok (.istore 4, 2) := by decide +kernel
theorem d_M_parts_44 : decode k_M_parts 44 = .ok (.aload_n 0, 1) := by decide +kernel
theorem d_M_parts_45 : decode k_M_parts 45 = .ok (.iload_n 1, 1) := by decide +kernel
theorem d_M_parts_46 : decode k_M_parts 46 = .ok (.iconst 4, 1) := by decide +kernel
theorem d_M_parts_47 : decode k_M_parts 47 = .ok (.if_icmp .ne 7, 3) := by decide +kernel
theorem d_M_parts_50 : decode k_M_parts 50 = .ok (.iconst 1, 1) := by decide +kernel
theorem d_M_parts_51 : decode k_M_parts 51 = .ok (.goto 4, 3) := by decide +kernel
theorem d_M_parts_54 : decode k_M_parts 54 = .ok (.iconst 0, 1) := by decide +kernel
theorem d_M_parts_55 : decode k_M_parts 55 = .ok (.invokevirtual 173, 3) := by decide +kernel
theorem d_M_parts_58 : decode k_M_parts 58 = .ok (.istore 5, 2) := by decide +kernel
theorem d_M_parts_60 : decode k_M_parts 60 = .ok (.iload 5, 2) := by decide +kernel
theorem d_M_parts_62 : decode k_M_parts 62 = .ok (.ifCond .ge 5, 3) := by decide +kernel
theorem d_M_parts_65 : decode k_M_parts 65 = .ok (.iconst (-1), 1) := by decide +kernel
theorem d_M_parts_66 : decode k_M_parts 66 = .ok (.ireturn, 1) := by decide +kernel
theorem d_M_parts_67 : decode k_M_parts 67 = .ok (.iload 5, 2) := by decide +kernel
theorem d_M_parts_69 : decode k_M_parts 69 = .ok (.ifCond .ne 7, 3) := by decide +kernel
theorem d_M_parts_72 : decode k_M_parts 72 = .ok (.iconst 0, 1) := by decide +kernel
theorem d_M_parts_73 : decode k_M_parts 73 = .ok (.goto 31, 3) := by decide +kernel
theorem d_M_parts_76 : decode k_M_parts 76 = .ok (.iload 5, 2) := by decide +kernel
theorem d_M_parts_78 : decode k_M_parts 78 = .ok (.iconst 1, 1) := by decide +kernel
theorem d_M_parts_79 : decode k_M_parts 79 = .ok (.if_icmp .ne 13, 3) := by decide +kernel
theorem d_M_parts_82 : decode k_M_parts 82 = .ok (.aload_n 0, 1) := by decide +kernel
theorem d_M_parts_83 : decode k_M_parts 83 = .ok (.iload_n 1, 1) := by decide +kernel
theorem d_M_parts_84 : decode k_M_parts 84 = .ok (.iconst 3, 1) := by decide +kernel
theorem d_M_parts_85 : decode k_M_parts 85 = .ok (.isub, 1) := by decide +kernel
theorem d_M_parts_86 : decode k_M_parts 86 = .ok (.invokevirtual 177, 3) := by decide +kernel
theorem d_M_parts_89 : decode k_M_parts 89 = .ok (.goto 15, 3) := by decide +kernel
theorem d_M_parts_92 : decode k_M_parts 92 = .ok (.aload_n 0, 1) := by decide +kernel
theorem d_M_parts_93 : decode k_M_parts 93 = .ok (.invokevirtual 148, 3) := by decide +kernel
theorem d_M_parts_96 : decode k_M_parts 96 = .ok (.ifCond .eq 7, 3) := by decide +kernel
theorem d_M_parts_99 : decode k_M_parts 99 = .ok (.iconst 1, 1) := by decide +kernel
theorem d_M_parts_100 : decode k_M_parts 100 = .ok (.goto 4, 3) := by decide +kernel
theorem d_M_parts_103 : decode k_M_parts 103 = .ok (.iconst (-1), 1) := by decide +kernel
theorem d_M_parts_104 : decode k_M_parts 104 = .ok (.istore 6, 2) := by decide +kernel
theorem d_M_parts_106 : decode k_M_parts 106 = .ok (.iload 6, 2) := by decide +kernel
theorem d_M_parts_108 : decode k_M_parts 108 = .ok (.ifCond .ge 5, 3) := by decide +kernel
theorem d_M_parts_111 : decode k_M_parts 111 = .ok (.iconst (-1), 1) := by decide +kernel
theorem d_M_parts_112 : decode k_M_parts 112 = .ok (.ireturn, 1) := by decide +kernel
theorem d_M_parts_113 : decode k_M_parts 113 = .ok (.aload_n 0, 1) := by decide +kernel
theorem d_M_parts_114 : decode k_M_parts 114 = .ok (.iload 4, 2) := by decide +kernel
theorem d_M_parts_116 : decode k_M_parts 116 = .ok (.iload 6, 2) := by decide +kernel
theorem d_M_parts_118 : decode k_M_parts 118 = .ok (.invokevirtual 160, 3) := by decide +kernel
theorem d_M_parts_121 : decode k_M_parts 121 = .ok (.iinc 2 1, 3) := by decide +kernel
theorem d_M_parts_124 : decode k_M_parts 124 = .ok (.aload_n 0, 1) := by decide +kernel
theorem d_M_parts_125 : decode k_M_parts 125 = .ok (.invokevirtual 151, 3) := by decide +kernel
theorem d_M_parts_128 : decode k_M_parts 128 = .ok (.istore_n 3, 1) := by decide +kernel
theorem d_M_parts_129 : decode k_M_parts 129 = .ok (.goto (-125), 3) := by decide +kernel
theorem d_M_parts_132 : decode k_M_parts 132 = .ok (.iload_n 3, 1) := by decide +kernel
theorem d_M_parts_133 : decode k_M_parts 133 = .ok (.ifCond .ge 7, 3) := by decide +kernel
theorem d_M_parts_136 : decode k_M_parts 136 = .ok (.iconst (-1), 1) := by decide +kernel
theorem d_M_parts_137 : decode k_M_parts 137 = .ok (.goto 4, 3) := by decide +kernel
theorem d_M_parts_140 : decode k_M_parts 140 = .ok (.iload_n 2, 1) := by decide +kernel
theorem d_M_parts_141 : decode k_M_parts 141 = .ok (.ireturn, 1) := by decide +kernel
theorem d_M_shape_0 : decode k_M_shape 0 = .ok (.aload_n 0, 1) := by decide +kernel
theorem d_M_shape_1 : decode k_M_shape 1 = .ok (.invokevirtual 106, 3) := by decide +kernel
theorem d_M_shape_4 : decode k_M_shape 4 = .ok (.aload_n 0, 1) := by decide +kernel
theorem d_M_shape_5 : decode k_M_shape 5 = .ok (.getfield 83, 3) := by decide +kernel
theorem d_M_shape_8 : decode k_M_shape 8 = .ok (.istore_n 2, 1) := by decide +kernel
theorem d_M_shape_9 : decode k_M_shape 9 = .ok (.aload_n 0, 1) := by decide +kernel
theorem d_M_shape_10 : decode k_M_shape 10 = .ok (.invokevirtual 95, 3) := by decide +kernel
theorem d_M_shape_13 : decode k_M_shape 13 = .ok (.invokestatic 73, 3) := by decide +kernel
theorem d_M_shape_16 : decode k_M_shape 16 = .ok (.ifCond .ne 10, 3) := by decide +kernel
theorem d_M_shape_19 : decode k_M_shape 19 = .ok (.aload_n 0, 1) := by decide +kernel
theorem d_M_shape_20 : decode k_M_shape 20 = .ok (.invokevirtual 109, 3) := by decide +kernel
theorem d_M_shape_23 : decode k_M_shape 23 = .ok (.pop, 1) := by decide +kernel
theorem d_M_shape_24 : decode k_M_shape 24 = .ok (.iconst (-1), 1) := by decide +kernel
theorem d_M_shape_25 : decode k_M_shape 25 = .ok (.ireturn, 1) := by decide +kernel
theorem d_M_shape_26 : decode k_M_shape 26 = .ok (.aload_n 0, 1) := by decide +kernel
theorem d_M_shape_27 : decode k_M_shape 27 = .ok (.invokevirtual 167, 3) := by decide +kernel
theorem d_M_shape_30 : decode k_M_shape 30 = .ok (.istore_n 3, 1) := by decide +kernel
theorem d_M_shape_31 : decode k_M_shape 31 = .ok (.iload_n 3, 1) := by decide +kernel
theorem d_M_shape_32 : decode k_M_shape 32 = .ok (.ifCond .eq 9, 3) := by decide +kernel
theorem d_M_shape_35 : decode k_M_shape 35 = .ok (.iload_n 3, 1) := by decide +kernel
theorem d_M_shape_36 : decode k_M_shape 36 = .ok (.bipush 8, 2) := by decide +kernel
theorem d_M_shape_38 : decode k_M_shape 38 = .ok (.if_icmp .ne 13, 3) := by decide +kernel
theorem d_M_shape_41 : decode k_M_shape 41 = .ok (.aload_n 0, 1) := by decide +kernel
theorem d_M_shape_42 : decode k_M_shape 42 = .ok (.iconst 2, 1) := by decide +kernel
theorem d_M_shape_43 : decode k_M_shape 43 = .ok (.iload_n 2, 1) := by decide +kernel
theorem d_M_shape_44 : decode k_M_shape 44 = .ok (.invokevirtual 102, 3) := by decide +kernel
theorem d_M_shape_47 : decode k_M_shape 47 = .ok (.pop, 1) := by decide +kernel
theorem d_M_shape_48 : decode k_M_shape 48 = .ok (.goto 23, 3) := by decide +kernel
theorem d_M_shape_51 : decode k_M_shape 51 = .ok (.iload_n 3, 1) := by decide +kernel
theorem d_M_shape_52 : decode k_M_shape 52 = .ok (.bipush 7, 2) := by decide +kernel
theorem d_M_shape_54 : decode k_M_shape 54 = .ok (.if_icmp .ne 17, 3) := by decide +kernel
theorem d_M_shape_57 : decode k_M_shape 57 = .ok (.iload_n 1, 1) := by decide +kernel
theorem d_M_shape_58 : decode k_M_shape 58 = .ok (.bipush 50, 2) := by decide +kernel
theorem d_M_shape_60 : decode k_M_shape 60 = .ok (.if_icmp .lt 11, 3) := by decide +kernel
theorem d_M_shape_63 : decode k_M_shape 63 = .ok (.aload_n 0, 1) := by decide +kernel
theorem d_M_shape_64 : decode k_M_shape 64 = .ok (.bipush 6, 2) := by decide +kernel
theorem d_M_shape_66 : decode k_M_shape 66 = .ok (.iload_n 2, 1) := by decide +kernel
theorem d_M_shape_67 : decode k_M_shape 67 = .ok (.invokevirtual 102, 3) := by decide +kernel
theorem d_M_shape_70 : decode k_M_shape 70 = .ok (.pop, 1) := by decide +kernel
theorem d_M_shape_71 : decode k_M_shape 71 = .ok (.aload_n 0, 1) := by decide +kernel
theorem d_M_shape_72 : decode k_M_shape 72 = .ok (.getfield 89, 3) := by decide +kernel
theorem d_M_shape_75 : decode k_M_shape 75 = .ok (.ifCond .le 5, 3) := by decide +kernel
theorem d_M_shape_78 : decode k_M_shape 78 = .ok (.iconst (-1), 1) := by decide +kernel
theorem d_M_shape_79 : decode k_M_shape 79 = .ok (.ireturn, 1) := by decide +kernel
theorem d_M_shape_80 : decode k_M_shape 80 = .ok (.aload_n 0, 1) := by decide +kernel
theorem d_M_shape_81 : decode k_M_shape 81 = .ok (.invokevirtual 106, 3) := by decide +kernel
theorem d_M_shape_84 : decode k_M_shape 84 = .ok (.aload_n 0, 1) := by decide +kernel
theorem d_M_shape_85 : decode k_M_shape 85 = .ok (.iconst 2, 1) := by decide +kernel
theorem d_M_shape_86 : decode k_M_shape 86 = .ok (.iconst 0, 1) := by decide +kernel
theorem d_M_shape_87 : decode k_M_shape 87 = .ok (.invokevirtual 142, 3) := by decide +kernel
theorem d_M_shape_90 : decode k_M_shape 90 = .ok (.ifCond .ne 14, 3) := by decide +kernel
theorem d_M_shape_93 : decode k_M_shape 93 = .ok (.aload_n 0, 1) := by decide +kernel
theorem d_M_shape_94 : decode k_M_shape 94 = .ok (.bipush 7, 2) := by decide +kernel
theorem d_M_shape_96 : decode k_M_shape 96 = .ok (.aload_n 0, 1) := by decide +kernel
theorem d_M_shape_97 : decode k_M_shape 97 = .ok (.getfield 83, 3) := by decide +kernel
theorem d_M_shape_100 : decode k_M_shape 100 = .ok (.invokevirtual 102, 3) := by decide +kernel
theorem d_M_shape_103 : decode k_M_shape 103 = .ok (.pop, 1) := by decide +kernel
theorem d_M_shape_104 : decode k_M_shape 104 = .ok (.aload_n 0, 1) := by decide +kernel
theorem d_M_shape_105 : decode k_M_shape 105 = .ok (.getfield 89, 3) := by decide +kernel
theorem d_M_shape_108 : decode k_M_shape 108 = .ok (.ifCond .le 7, 3) := by decide +kernel
theorem d_M_shape_111 : decode k_M_shape 111 = .ok (.iconst 0, 1) := by decide +kernel
theorem d_M_shape_112 : decode k_M_shape 112 = .ok (.goto 8, 3) := by decide +kernel
theorem d_M_shape_115 : decode k_M_shape 115 = .ok (.aload_n 0, 1) := by decide +kernel
theorem d_M_shape_116 : decode k_M_shape 116 = .ok (.iload_n 3, 1) := by decide +kernel
theorem d_M_shape_117 : decode k_M_shape 117 = .ok (.invokevirtual 170, 3) := by decide +kernel
theorem d_M_shape_120 : decode k_M_shape 120 = .ok (.istore 4, 2) := by decide +kernel
theorem d_M_shape_122 : decode k_M_shape 122 = .ok (.aload_n 0, 1) := by decide +kernel
theorem d_M_shape_123 : decode k_M_shape 123 = .ok (.getfield 89, 3) := by decide +kernel
theorem d_M_shape_126 : decode k_M_shape 126 = .ok (.ifCond .le 7, 3) := by decide +kernel
theorem d_M_shape_129 : decode k_M_shape 129 = .ok (.iconst (-1), 1) := by decide +kernel
theorem d_M_shape_130 : decode k_M_shape 130 = .ok (.goto 8, 3) := by decide +kernel
theorem d_M_shape_133 : decode k_M_shape 133 = .ok (.aload_n 0, 1) := by decide +kernel
theorem d_M_shape_134 : decode k_M_shape 134 = .ok (.iconst 0, 1) := by decide +kernel
theorem d_M_shape_135 : decode k_M_shape 135 = .ok (.invokevirtual 173, 3) := by decide +kernel
theorem d_M_shape_138 : decode k_M_shape 138 = .ok (.istore 5, 2) := by decide +kernel
theorem d_M_shape_140 : decode k_M_shape 140 = .ok (.iload 5, 2) := by decide +kernel
theorem d_M_shape_142 : decode k_M_shape 142 = .ok (.iconst 1, 1) := by decide +kernel
theorem d_M_shape_143 : decode k_M_shape 143 = .ok (.if_icmp .ge 14, 3) := by decide +kernel
theorem d_M_shape_146 : decode k_M_shape 146 = .ok (.iload 5, 2) := by decide +kernel
theorem d_M_shape_148 : decode k_M_shape 148 = .ok (.ifCond .ge 7, 3) := by decide +kernel
theorem d_M_shape_151 : decode k_M_shape 151 = .ok (.iconst (-1), 1) := by decide +kernel
theorem d_M_shape_152 : decode k_M_shape 152 = .ok (.goto 4, 3) := by decide +kernel
theorem d_M_shape_155 : decode k_M_shape 155 = .ok (.iload_n 1, 1) := by decide +kernel
theorem d_M_shape_156 : decode k_M_shape 156 = .ok (.ireturn, 1) := by decide +kernel
theorem d_M_shape_157 : decode k_M_shape 157 = .ok (.iload_n 3, 1) := by decide +kernel
theorem d_M_shape_158 : decode k_M_shape 158 = .ok (.bipush 7, 2) := by decide +kernel
theorem d_M_shape_160 : decode k_M_shape 160 = .ok (.if_icmp .ne 22, 3) := by decide +kernel
theorem d_M_shape_163 : decode k_M_shape 163 = .ok (.aload_n 0, 1) := by decide +kernel
theorem d_M_shape_164 : decode k_M_shape 164 = .ok (.getfield 40, 3) := by decide +kernel
theorem d_M_shape_167 : decode k_M_shape 167 = .ok (.iload_n 1, 1) := by decide +kernel
theorem d_M_shape_168 : decode k_M_shape 168 = .ok (.iload 4, 2) := by decide +kernel
theorem d_M_shape_170 : decode k_M_shape 170 = .ok (.iastore, 1) := by decide +kernel
theorem d_M_shape_171 : decode k_M_shape 171 = .ok (.aload_n 0, 1) := by decide +kernel
theorem d_M_shape_172 : decode k_M_shape 172 = .ok (.getfield 43, 3) := by decide +kernel
theorem d_M_shape_175 : decode k_M_shape 175 = .ok (.iload_n 1, 1) := by decide +kernel
theorem d_M_shape_176 : decode k_M_shape 176 = .ok (.iconst 0, 1) := by decide +kernel
theorem d_M_shape_177 : decode k_M_shape 177 = .ok (.iastore, 1) := by decide +kernel
theorem d_M_shape_178 : decode k_M_shape 178 = .ok (.iload_n 1, 1) := by decide +kernel
theorem d_M_shape_179 : decode k_M_shape 179 = .ok (.iconst 1, 1) := by decide +kernel
theorem d_M_shape_180 : decode k_M_shape 180 = .ok (.iadd, 1) := by decide +kernel
theorem d_M_shape_181 : decode k_M_shape 181 = .ok (.ireturn, 1) := by decide +kernel
theorem d_M_shape_182 : decode k_M_shape 182 = .ok (.iload_n 3, 1) := by decide +kernel
theorem d_M_shape_183 : decode k_M_shape 183 = .ok (.iconst 4, 1) := by decide +kernel
theorem d_M_shape_184 : decode k_M_shape 184 = .ok (.if_icmp .ge 11, 3) := by decide +kernel
theorem d_M_shape_187 : decode k_M_shape 187 = .ok (.aload_n 0, 1) := by decide +kernel
theorem d_M_shape_188 : decode k_M_shape 188 = .ok (.iload_n 3, 1) := by decide +kernel
theorem d_M_shape_189 : decode k_M_shape 189 = .ok (.invokevirtual 177, 3) := by decide +kernel
theorem d_M_shape_192 : decode k_M_shape 192 = .ok (.goto 8, 3) := by decide +kernel
theorem d_M_shape_195 : decode k_M_shape 195 = .ok (.aload_n 0, 1) := by decide +kernel
theorem d_M_shape_196 : decode k_M_shape 196 = .ok (.iload_n 3, 1) := by decide +kernel
theorem d_M_shape_197 : decode k_M_shape 197 = .ok (.invokevirtual 180, 3) := by decide +kernel
theorem d_M_shape_200 : decode k_M_shape 200 = .ok (.istore 6, 2) := by decide +kernel
theorem d_M_shape_202 : decode k_M_shape 202 = .ok (.iload 6, 2) := by decide +kernel
theorem d_M_shape_204 : decode k_M_shape 204 = .ok (.ifCond .ge 5, 3) := by decide +kernel
theorem d_M_shape_207 : decode k_M_shape 207 = .ok (.iconst (-1), 1) := by decide +kernel
theorem d_M_shape_208 : decode k_M_shape 208 = .ok (.ireturn, 1) := by decide +kernel
theorem d_M_shape_209 : decode k_M_shape 209 = .ok (.aload_n 0, 1) := by decide +kernel
theorem d_M_shape_210 : decode k_M_shape 210 = .ok (.iload 4, 2) := by decide +kernel
theorem d_M_shape_212 : decode k_M_shape 212 = .ok (.iload 6, 2) := by decide +kernel
theorem d_M_shape_214 : decode k_M_shape 214 = .ok (.invokevirtual 160, 3) := by decide +kernel
theorem d_M_shape_217 : decode k_M_shape 217 = .ok (.iload_n 1, 1) := by decide +kernel
theorem d_M_shape_218 : decode k_M_shape 218 = .ok (.ireturn, 1) := by decide +kernel
theorem d_M_readAll_0 : decode k_M_readAll 0 = .ok (.iconst 0, 1) := by decide +kernel
theorem d_M_readAll_1 : decode k_M_readAll 1 = .ok (.istore_n 1, 1) := by decide +kernel
theorem d_M_readAll_2 : decode k_M_readAll 2 = .ok (.iconst 1, 1) := by decide +kernel
theorem d_M_readAll_3 : decode k_M_readAll 3 = .ok (.istore_n 2, 1) := by decide +kernel
theorem d_M_readAll_4 : decode k_M_readAll 4 = .ok (.iload_n 2, 1) := by decide +kernel
theorem d_M_readAll_5 : decode k_M_readAll 5 = .ok (.ifCond .eq 116, 3) := by decide +kernel
theorem d_M_readAll_8 : decode k_M_readAll 8 = .ok (.iload_n 1, 1) := by decide +kernel
theorem d_M_readAll_9 : decode k_M_readAll 9 = .ok (.istore_n 3, 1) := by decide +kernel
theorem d_M_readAll_10 : decode k_M_readAll 10 = .ok (.aload_n 0, 1) := by decide +kernel
theorem d_M_readAll_11 : decode k_M_readAll 11 = .ok (.iload_n 3, 1) := by decide +kernel
theorem d_M_readAll_12 : decode k_M_readAll 12 = .ok (.invokevirtual 183, 3) := by decide +kernel
theorem d_M_readAll_15 : decode k_M_readAll 15 = .ok (.istore_n 1, 1) := by decide +kernel
theorem d_M_readAll_16 : decode k_M_readAll 16 = .ok (.iload_n 1, 1) := by decide +kernel
theorem d_M_readAll_17 : decode k_M_readAll 17 = .ok (.ifCond .ge 5, 3) := by decide +kernel
theorem d_M_readAll_20 : decode k_M_readAll 20 = .ok (.iconst 0, 1) := by decide +kernel
theorem d_M_readAll_21 : decode k_M_readAll 21 = .ok (.ireturn, 1) := by decide +kernel
theorem d_M_readAll_22 : decode k_M_readAll 22 = .ok (.iload_n 1, 1) := by decide +kernel
theorem d_M_readAll_23 : decode k_M_readAll 23 = .ok (.iload_n 3, 1) := by decide +kernel
theorem d_M_readAll_24 : decode k_M_readAll 24 = .ok (.if_icmp .ne 7, 3) := by decide +kernel
theorem d_M_readAll_27 : decode k_M_readAll 27 = .ok (.iconst 1, 1) := by decide +kernel
theorem d_M_readAll_28 : decode k_M_readAll 28 = .ok (.goto 4, 3) := by decide +kernel
theorem d_M_readAll_31 : decode k_M_readAll 31 = .ok (.iconst 0, 1) := by decide +kernel
theorem d_M_readAll_32 : decode k_M_readAll 32 = .ok (.istore 4, 2) := by decide +kernel
theorem d_M_readAll_34 : decode k_M_readAll 34 = .ok (.iload 4, 2) := by decide +kernel
theorem d_M_readAll_36 : decode k_M_readAll 36 = .ok (.ifCond .eq 71, 3) := by decide +kernel
theorem d_M_readAll_39 : decode k_M_readAll 39 = .ok (.iload_n 1, 1) := by decide +kernel
theorem d_M_readAll_40 : decode k_M_readAll 40 = .ok (.ifCond .le 67, 3) := by decide +kernel
theorem d_M_readAll_43 : decode k_M_readAll 43 = .ok (.aload_n 0, 1) := by decide +kernel
theorem d_M_readAll_44 : decode k_M_readAll 44 = .ok (.getfield 43, 3) := by decide +kernel
theorem d_M_readAll_47 : decode k_M_readAll 47 = .ok (.iload_n 1, 1) := by decide +kernel
theorem d_M_readAll_48 : decode k_M_readAll 48 = .ok (.iconst 1, 1) := by decide +kernel
theorem d_M_readAll_49 : decode k_M_readAll 49 = .ok (.isub, 1) := by decide +kernel
theorem d_M_readAll_50 : decode k_M_readAll 50 = .ok (.dup2, 1) := by decide +kernel
theorem d_M_readAll_51 : decode k_M_readAll 51 = .ok (.iaload, 1) := by decide +kernel
theorem d_M_readAll_52 : decode k_M_readAll 52 = .ok (.iconst 1, 1) := by decide +kernel
theorem d_M_readAll_53 : decode k_M_readAll 53 = .ok (.iadd, 1) := by decide +kernel
theorem d_M_readAll_54 : decode k_M_readAll 54 = .ok (.iastore, 1) := by decide +kernel
theorem d_M_readAll_55 : decode k_M_readAll 55 = .ok (.aload_n 0, 1) := by decide +kernel
theorem d_M_readAll_56 : decode k_M_readAll 56 = .ok (.invokevirtual 151, 3) := by decide +kernel
theorem d_M_readAll_59 : decode k_M_readAll 59 = .ok (.istore 5, 2) := by decide +kernel
theorem d_M_readAll_61 : decode k_M_readAll 61 = .ok (.iload 5, 2) := by decide +kernel
theorem d_M_readAll_63 : decode k_M_readAll 63 = .ok (.ifCond .ge 5, 3) := by decide +kernel
theorem d_M_readAll_66 : decode k_M_readAll 66 = .ok (.iconst 0, 1) := by decide +kernel
theorem d_M_readAll_67 : decode k_M_readAll 67 = .ok (.ireturn, 1) := by decide +kernel
theorem d_M_readAll_68 : decode k_M_readAll 68 = .ok (.iload 5, 2) := by decide +kernel
theorem d_M_readAll_70 : decode k_M_readAll 70 = .ok (.ifCond .ne 7, 3) := by decide +kernel
theorem d_M_readAll_73 : decode k_M_readAll 73 = .ok (.iconst 1, 1) := by decide +kernel
theorem d_M_readAll_74 : decode k_M_readAll 74 = .ok (.goto 4, 3) := by decide +kernel
theorem d_M_readAll_77 : decode k_M_readAll 77 = .ok (.iconst 0, 1) := by decide +kernel
theorem d_M_readAll_78 : decode k_M_readAll 78 = .ok (.istore 4, 2) := by decide +kernel
theorem d_M_readAll_80 : decode k_M_readAll 80 = .ok (.iload 4, 2) := by decide +kernel
theorem d_M_readAll_82 : decode k_M_readAll 82 = .ok (.ifCond .eq 22, 3) := by decide +kernel
theorem d_M_readAll_85 : decode k_M_readAll 85 = .ok (.iinc 1 (-1), 3) := by decide +kernel
theorem d_M_readAll_88 : decode k_M_readAll 88 = .ok (.aload_n 0, 1) := by decide +kernel
theorem d_M_readAll_89 : decode k_M_readAll 89 = .ok (.aload_n 0, 1) := by decide +kernel
theorem d_M_readAll_90 : decode k_M_readAll 90 = .ok (.getfield 40, 3) := by decide +kernel
theorem d_M_readAll_93 : decode k_M_readAll 93 = .ok (.iload_n 1, 1) := by decide +kernel
theorem d_M_readAll_94 : decode k_M_readAll 94 = .ok (.iaload, 1) := by decide +kernel
theorem d_M_readAll_95 : decode k_M_readAll 95 = .ok (.aload_n 0, 1) := by decide +kernel
theorem d_M_readAll_96 : decode k_M_readAll 96 = .ok (.getfield 43, 3) := by decide +kernel
theorem d_M_readAll_99 : decode k_M_readAll 99 = .ok (.iload_n 1, 1) := by decide +kernel
theorem d_M_readAll_100 : decode k_M_readAll 100 = .ok (.iaload, 1) := by decide +kernel
theorem d_M_readAll_101 : decode k_M_readAll 101 = .ok (.invokevirtual 160, 3) := by decide +kernel
theorem d_M_readAll_104 : decode k_M_readAll 104 = .ok (.goto (-70), 3) := by decide +kernel
theorem d_M_readAll_107 : decode k_M_readAll 107 = .ok (.iload 4, 2) := by decide +kernel
theorem d_M_readAll_109 : decode k_M_readAll 109 = .ok (.ifCond .ne 7, 3) := by decide +kernel
theorem d_M_readAll_112 : decode k_M_readAll 112 = .ok (.iconst 1, 1) := by decide +kernel
theorem d_M_readAll_113 : decode k_M_readAll 113 = .ok (.goto 4, 3) := by decide +kernel
theorem d_M_readAll_116 : decode k_M_readAll 116 = .ok (.iconst 0, 1) := by decide +kernel
theorem d_M_readAll_117 : decode k_M_readAll 117 = .ok (.istore_n 2, 1) := by decide +kernel
theorem d_M_readAll_118 : decode k_M_readAll 118 = .ok (.goto (-114), 3) := by decide +kernel
theorem d_M_readAll_121 : decode k_M_readAll 121 = .ok (.aload_n 0, 1) := by decide +kernel
theorem d_M_readAll_122 : decode k_M_readAll 122 = .ok (.invokevirtual 106, 3) := by decide +kernel
theorem d_M_readAll_125 : decode k_M_readAll 125 = .ok (.aload_n 0, 1) := by decide +kernel
theorem d_M_readAll_126 : decode k_M_readAll 126 = .ok (.getfield 83, 3) := by decide +kernel
theorem d_M_readAll_129 : decode k_M_readAll 129 = .ok (.aload_n 0, 1) := by decide +kernel
theorem d_M_readAll_130 : decode k_M_readAll 130 = .ok (.getfield 66, 3) := by decide +kernel
theorem d_M_readAll_133 : decode k_M_readAll 133 = .ok (.if_icmp .eq 16, 3) := by decide +kernel
theorem d_M_readAll_136 : decode k_M_readAll 136 = .ok (.aload_n 0, 1) := by decide +kernel
theorem d_M_readAll_137 : decode k_M_readAll 137 = .ok (.bipush 8, 2) := by decide +kernel
theorem d_M_readAll_139 : decode k_M_readAll 139 = .ok (.aload_n 0, 1) := by decide +kernel
theorem d_M_readAll_140 : decode k_M_readAll 140 = .ok (.getfield 83, 3) := by decide +kernel
theorem d_M_readAll_143 : decode k_M_readAll 143 = .ok (.invokevirtual 102, 3) := by decide +kernel
theorem d_M_readAll_146 : decode k_M_readAll 146 = .ok (.ifCond .eq 7, 3) := by decide +kernel
theorem d_M_readAll_149 : decode k_M_readAll 149 = .ok (.iconst 1, 1) := by decide +kernel
theorem d_M_readAll_150 : decode k_M_readAll 150 = .ok (.goto 4, 3) := by decide +kernel
theorem d_M_readAll_153 : decode k_M_readAll 153 = .ok (.iconst 0, 1) := by decide +kernel
theorem d_M_readAll_154 : decode k_M_readAll 154 = .ok (.ireturn, 1) := by decide +kernel
theorem d_M_read_0 : decode k_M_read 0 = .ok (.aload_n 0, 1) := by decide +kernel
theorem d_M_read_1 : decode k_M_read 1 = .ok (.iconst 0, 1) := by decide +kernel
theorem d_M_read_2 : decode k_M_read 2 = .ok (.putfield 59, 3) := by decide +kernel
theorem d_M_read_5 : decode k_M_read 5 = .ok (.iload_n 1, 1) := by decide +kernel
theorem d_M_read_6 : decode k_M_read 6 = .ok (.invokestatic 186, 3) := by decide +kernel
theorem d_M_read_9 : decode k_M_read 9 = .ok (.ifCond .ne 14, 3) := by decide +kernel
theorem d_M_read_12 : decode k_M_read 12 = .ok (.aload_n 0, 1) := by decide +kernel
theorem d_M_read_13 : decode k_M_read 13 = .ok (.iconst 0, 1) := by decide +kernel
theorem d_M_read_14 : decode k_M_read 14 = .ok (.putfield 66, 3) := by decide +kernel
theorem d_M_read_17 : decode k_M_read 17 = .ok (.aload_n 0, 1) := by decide +kernel
theorem d_M_read_18 : decode k_M_read 18 = .ok (.iconst 1, 1) := by decide +kernel
theorem d_M_read_19 : decode k_M_read 19 = .ok (.invokevirtual 69, 3) := by decide +kernel
theorem d_M_read_22 : decode k_M_read 22 = .ok (.ireturn, 1) := by decide +kernel
theorem d_M_read_23 : decode k_M_read 23 = .ok (.aload_n 0, 1) := by decide +kernel
theorem d_M_read_24 : decode k_M_read 24 = .ok (.iload_n 1, 1) := by decide +kernel
theorem d_M_read_25 : decode k_M_read 25 = .ok (.putfield 135, 3) := by decide +kernel
theorem d_M_read_28 : decode k_M_read 28 = .ok (.aload_n 0, 1) := by decide +kernel
theorem d_M_read_29 : decode k_M_read 29 = .ok (.iconst 0, 1) := by decide +kernel
theorem d_M_read_30 : decode k_M_read 30 = .ok (.putfield 83, 3) := by decide +kernel
theorem d_M_read_33 : decode k_M_read 33 = .ok (.aload_n 0, 1) := by decide +kernel
theorem d_M_read_34 : decode k_M_read 34 = .ok (.iconst 0, 1) := by decide +kernel
theorem d_M_read_35 : decode k_M_read 35 = .ok (.putfield 89, 3) := by decide +kernel
theorem d_M_read_38 : decode k_M_read 38 = .ok (.aload_n 0, 1) := by decide +kernel
theorem d_M_read_39 : decode k_M_read 39 = .ok (.iconst 0, 1) := by decide +kernel
theorem d_M_read_40 : decode k_M_read 40 = .ok (.putfield 92, 3) := by decide +kernel
theorem d_M_read_43 : decode k_M_read 43 = .ok (.aload_n 0, 1) := by decide +kernel
theorem d_M_read_44 : decode k_M_read 44 = .ok (.getfield 23, 3) := by decide +kernel
theorem d_M_read_47 : decode k_M_read 47 = .ok (.iload_n 1, 1) := by decide +kernel
theorem d_M_read_48 : decode k_M_read 48 = .ok (.iconst 0, 1) := by decide +kernel
theorem d_M_read_49 : decode k_M_read 49 = .ok (.iastore, 1) := by decide +kernel
theorem d_M_read_50 : decode k_M_read 50 = .ok (.aload_n 0, 1) := by decide +kernel
theorem d_M_read_51 : decode k_M_read 51 = .ok (.getfield 30, 3) := by decide +kernel
theorem d_M_read_54 : decode k_M_read 54 = .ok (.iload_n 1, 1) := by decide +kernel
theorem d_M_read_55 : decode k_M_read 55 = .ok (.iconst 0, 1) := by decide +kernel
theorem d_M_read_56 : decode k_M_read 56 = .ok (.iastore, 1) := by decide +kernel
theorem d_M_read_57 : decode k_M_read 57 = .ok (.aload_n 0, 1) := by decide +kernel
theorem d_M_read_58 : decode k_M_read 58 = .ok (.invokevirtual 189, 3) := by decide +kernel
theorem d_M_read_61 : decode k_M_read 61 = .ok (.istore_n 2, 1) := by decide +kernel
theorem d_M_read_62 : decode k_M_read 62 = .ok (.aload_n 0, 1) := by decide +kernel
theorem d_M_read_63 : decode k_M_read 63 = .ok (.iconst 0, 1) := by decide +kernel
theorem d_M_read_64 : decode k_M_read 64 = .ok (.putfield 66, 3) := by decide +kernel
theorem d_M_read_67 : decode k_M_read 67 = .ok (.iload_n 2, 1) := by decide +kernel
theorem d_M_read_68 : decode k_M_read 68 = .ok (.ifCond .eq 14, 3) := by decide +kernel
theorem d_M_read_71 : decode k_M_read 71 = .ok (.aload_n 0, 1) := by decide +kernel
theorem d_M_read_72 : decode k_M_read 72 = .ok (.getfield 20, 3) := by decide +kernel
theorem d_M_read_75 : decode k_M_read 75 = .ok (.sipush 4096, 3) := by decide +kernel
theorem d_M_read_78 : decode k_M_read 78 = .ok (.iload_n 1, 1) := by decide +kernel
theorem d_M_read_79 : decode k_M_read 79 = .ok (.imul, 1) := by decide +kernel
theorem d_M_read_80 : decode k_M_read 80 = .ok (.iaload, 1) := by decide +kernel
theorem d_M_read_81 : decode k_M_read 81 = .ok (.ireturn, 1) := by decide +kernel
theorem d_M_read_82 : decode k_M_read 82 = .ok (.aload_n 0, 1) := by decide +kernel
theorem d_M_read_83 : decode k_M_read 83 = .ok (.getfield 23, 3) := by decide +kernel
theorem d_M_read_86 : decode k_M_read 86 = .ok (.iload_n 1, 1) := by decide +kernel
theorem d_M_read_87 : decode k_M_read 87 = .ok (.iconst 0, 1) := by decide +kernel
theorem d_M_read_88 : decode k_M_read 88 = .ok (.iastore, 1) := by decide +kernel
theorem d_M_read_89 : decode k_M_read 89 = .ok (.aload_n 0, 1) := by decide +kernel
theorem d_M_read_90 : decode k_M_read 90 = .ok (.getfield 30, 3) := by decide +kernel
theorem d_M_read_93 : decode k_M_read 93 = .ok (.iload_n 1, 1) := by decide +kernel
theorem d_M_read_94 : decode k_M_read 94 = .ok (.iconst 0, 1) := by decide +kernel
theorem d_M_read_95 : decode k_M_read 95 = .ok (.iastore, 1) := by decide +kernel
theorem d_M_read_96 : decode k_M_read 96 = .ok (.aload_n 0, 1) := by decide +kernel
theorem d_M_read_97 : decode k_M_read 97 = .ok (.iconst 2, 1) := by decide +kernel
theorem d_M_read_98 : decode k_M_read 98 = .ok (.invokevirtual 69, 3) := by decide +kernel
theorem d_M_read_101 : decode k_M_read 101 = .ok (.ireturn, 1) := by decide +kernel
theorem d_M_fault_0 : decode k_M_fault 0 = .ok (.aload_n 0, 1) := by decide +kernel
theorem d_M_fault_1 : decode k_M_fault 1 = .ok (.iconst 0, 1) := by decide +kernel
theorem d_M_fault_2 : decode k_M_fault 2 = .ok (.putfield 59, 3) := by decide +kernel
theorem d_M_fault_5 : decode k_M_fault 5 = .ok (.iload_n 1, 1) := by decide +kernel
theorem d_M_fault_6 : decode k_M_fault 6 = .ok (.iconst 0, 1) := by decide +kernel
theorem d_M_fault_7 : decode k_M_fault 7 = .ok (.iconst 1, 1) := by decide +kernel
theorem d_M_fault_8 : decode k_M_fault 8 = .ok (.invokestatic 62, 3) := by decide +kernel
theorem d_M_fault_11 : decode k_M_fault 11 = .ok (.ifCond .eq 21, 3) := by decide +kernel
theorem d_M_fault_14 : decode k_M_fault 14 = .ok (.iload_n 1, 1) := by decide +kernel
theorem d_M_fault_15 : decode k_M_fault 15 = .ok (.ifCond .ne 10, 3) := by decide +kernel
theorem d_M_fault_18 : decode k_M_fault 18 = .ok (.aload_n 0, 1) := by decide +kernel
theorem d_M_fault_19 : decode k_M_fault 19 = .ok (.getfield 89, 3) := by decide +kernel
theorem d_M_fault_22 : decode k_M_fault 22 = .ok (.goto 15, 3) := by decide +kernel
theorem d_M_fault_25 : decode k_M_fault 25 = .ok (.aload_n 0, 1) := by decide +kernel
theorem d_M_fault_26 : decode k_M_fault 26 = .ok (.getfield 92, 3) := by decide +kernel
theorem d_M_fault_29 : decode k_M_fault 29 = .ok (.goto 8, 3) := by decide +kernel
theorem d_M_fault_32 : decode k_M_fault 32 = .ok (.aload_n 0, 1) := by decide +kernel
theorem d_M_fault_33 : decode k_M_fault 33 = .ok (.iconst 1, 1) := by decide +kernel
theorem d_M_fault_34 : decode k_M_fault 34 = .ok (.invokevirtual 69, 3) := by decide +kernel
theorem d_M_fault_37 : decode k_M_fault 37 = .ok (.ireturn, 1) := by decide +kernel
theorem d_M_put_0 : decode k_M_put 0 = .ok (.aload_n 0, 1) := by decide +kernel
theorem d_M_put_1 : decode k_M_put 1 = .ok (.getfield 192, 3) := by decide +kernel
theorem d_M_put_4 : decode k_M_put 4 = .ok (.ldc 33, 2) := by decide +kernel
theorem d_M_put_6 : decode k_M_put 6 = .ok (.if_icmp .ge 13, 3) := by decide +kernel
theorem d_M_put_9 : decode k_M_put 9 = .ok (.aload_n 0, 1) := by decide +kernel
theorem d_M_put_10 : decode k_M_put 10 = .ok (.getfield 37, 3) := by decide +kernel
theorem d_M_put_13 : decode k_M_put 13 = .ok (.aload_n 0, 1) := by decide +kernel
theorem d_M_put_14 : decode k_M_put 14 = .ok (.getfield 192, 3) := by decide +kernel
theorem d_M_put_17 : decode k_M_put 17 = .ok (.iload_n 1, 1) := by decide +kernel
theorem d_M_put_18 : decode k_M_put 18 = .ok (.iastore, 1) := by decide +kernel
theorem d_M_put_19 : decode k_M_put 19 = .ok (.aload_n 0, 1) := by decide +kernel
theorem d_M_put_20 : decode k_M_put 20 = .ok (.dup, 1) := by decide +kernel
theorem d_M_put_21 : decode k_M_put 21 = .ok (.getfield 192, 3) := by decide +kernel
theorem d_M_put_24 : decode k_M_put 24 = .ok (.iconst 1, 1) := by decide +kernel
theorem d_M_put_25 : decode k_M_put 25 = .ok (.iadd, 1) := by decide +kernel
theorem d_M_put_26 : decode k_M_put 26 = .ok (.putfield 192, 3) := by decide +kernel
theorem d_M_put_29 : decode k_M_put 29 = .ok (.return_, 1) := by decide +kernel
theorem d_M_putWord_0 : decode k_M_putWord 0 = .ok (.aload_n 0, 1) := by decide +kernel
theorem d_M_putWord_1 : decode k_M_putWord 1 = .ok (.getfield 13, 3) := by decide +kernel
theorem d_M_putWord_4 : decode k_M_putWord 4 = .ok (.iload_n 1, 1) := by decide +kernel
theorem d_M_putWord_5 : decode k_M_putWord 5 = .ok (.iaload, 1) := by decide +kernel
theorem d_M_putWord_6 : decode k_M_putWord 6 = .ok (.istore_n 2, 1) := by decide +kernel
theorem d_M_putWord_7 : decode k_M_putWord 7 = .ok (.iload_n 2, 1) := by decide +kernel
theorem d_M_putWord_8 : decode k_M_putWord 8 = .ok (.aload_n 0, 1) := by decide +kernel
theorem d_M_putWord_9 : decode k_M_putWord 9 = .ok (.getfield 13, 3) := by decide +kernel
theorem d_M_putWord_12 : decode k_M_putWord 12 = .ok (.iload_n 1, 1) := by decide +kernel
theorem d_M_putWord_13 : decode k_M_putWord 13 = .ok (.iconst 1, 1) := by decide +kernel
theorem d_M_putWord_14 : decode k_M_putWord 14 = .ok (.iadd, 1) := by decide +kernel
theorem d_M_putWord_15 : decode k_M_putWord 15 = .ok (.iaload, 1) := by decide +kernel
theorem d_M_putWord_16 : decode k_M_putWord 16 = .ok (.if_icmp .ge 19, 3) := by decide +kernel
theorem d_M_putWord_19 : decode k_M_putWord 19 = .ok (.aload_n 0, 1) := by decide +kernel
theorem d_M_putWord_20 : decode k_M_putWord 20 = .ok (.aload_n 0, 1) := by decide +kernel
theorem d_M_putWord_21 : decode k_M_putWord 21 = .ok (.getfield 7, 3) := by decide +kernel
theorem d_M_putWord_24 : decode k_M_putWord 24 = .ok (.iload_n 2, 1) := by decide +kernel
theorem d_M_putWord_25 : decode k_M_putWord 25 = .ok (.iaload, 1) := by decide +kernel
theorem d_M_putWord_26 : decode k_M_putWord 26 = .ok (.invokevirtual 195, 3) := by decide +kernel
theorem d_M_putWord_29 : decode k_M_putWord 29 = .ok (.iinc 2 1, 3) := by decide +kernel
theorem d_M_putWord_32 : decode k_M_putWord 32 = .ok (.goto (-25), 3) := by decide +kernel
theorem d_M_putWord_35 : decode k_M_putWord 35 = .ok (.return_, 1) := by decide +kernel
theorem d_M_ten_0 : decode k_M_ten 0 = .ok (.iload_n 0, 1) := by decide +kernel
theorem d_M_ten_1 : decode k_M_ten 1 = .ok (.ifCond .ne 7, 3) := by decide +kernel
theorem d_M_ten_4 : decode k_M_ten 4 = .ok (.iconst 1, 1) := by decide +kernel
theorem d_M_ten_5 : decode k_M_ten 5 = .ok (.goto 26, 3) := by decide +kernel
theorem d_M_ten_8 : decode k_M_ten 8 = .ok (.iload_n 0, 1) := by decide +kernel
theorem d_M_ten_9 : decode k_M_ten 9 = .ok (.iconst 1, 1) := by decide +kernel
theorem d_M_ten_10 : decode k_M_ten 10 = .ok (.if_icmp .ne 8, 3) := by decide +kernel
theorem d_M_ten_13 : decode k_M_ten 13 = .ok (.bipush 10, 2) := by decide +kernel
theorem d_M_ten_15 : decode k_M_ten 15 = .ok (.goto 16, 3) := by decide +kernel
theorem d_M_ten_18 : decode k_M_ten 18 = .ok (.iload_n 0, 1) := by decide +kernel
theorem d_M_ten_19 : decode k_M_ten 19 = .ok (.iconst 2, 1) := by decide +kernel
theorem d_M_ten_20 : decode k_M_ten 20 = .ok (.if_icmp .ne 8, 3) := by decide +kernel
theorem d_M_ten_23 : decode k_M_ten 23 = .ok (.bipush 100, 2) := by decide +kernel
theorem d_M_ten_25 : decode k_M_ten 25 = .ok (.goto 6, 3) := by decide +kernel
theorem d_M_ten_28 : decode k_M_ten 28 = .ok (.sipush 1000, 3) := by decide +kernel
theorem d_M_ten_31 : decode k_M_ten 31 = .ok (.ireturn, 1) := by decide +kernel
theorem d_M_putNumber_0 : decode k_M_putNumber 0 = .ok (.iload_n 1, 1) := by decide +kernel
theorem d_M_putNumber_1 : decode k_M_putNumber 1 = .ok (.ifCond .ge 8, 3) := by decide +kernel
theorem d_M_putNumber_4 : decode k_M_putNumber 4 = .ok (.iload_n 1, 1) := by decide +kernel
theorem d_M_putNumber_5 : decode k_M_putNumber 5 = .ok (.ineg, 1) := by decide +kernel
theorem d_M_putNumber_6 : decode k_M_putNumber 6 = .ok (.goto 4, 3) := by decide +kernel
theorem d_M_putNumber_9 : decode k_M_putNumber 9 = .ok (.iload_n 1, 1) := by decide +kernel
theorem d_M_putNumber_10 : decode k_M_putNumber 10 = .ok (.istore_n 2, 1) := by decide +kernel
theorem d_M_putNumber_11 : decode k_M_putNumber 11 = .ok (.iload_n 1, 1) := by decide +kernel
theorem d_M_putNumber_12 : decode k_M_putNumber 12 = .ok (.ifCond .ge 9, 3) := by decide +kernel
theorem d_M_putNumber_15 : decode k_M_putNumber 15 = .ok (.aload_n 0, 1) := by decide +kernel
theorem d_M_putNumber_16 : decode k_M_putNumber 16 = .ok (.bipush 45, 2) := by decide +kernel
theorem d_M_putNumber_18 : decode k_M_putNumber 18 = .ok (.invokevirtual 195, 3) := by decide +kernel
theorem d_M_putNumber_21 : decode k_M_putNumber 21 = .ok (.iload_n 2, 1) := by decide +kernel
theorem d_M_putNumber_22 : decode k_M_putNumber 22 = .ok (.aload_n 0, 1) := by decide +kernel
theorem d_M_putNumber_23 : decode k_M_putNumber 23 = .ok (.getfield 49, 3) := by decide +kernel
theorem d_M_putNumber_26 : decode k_M_putNumber 26 = .ok (.invokestatic 198, 3) := by decide +kernel
theorem d_M_putNumber_29 : decode k_M_putNumber 29 = .ok (.idiv, 1) := by decide +kernel
theorem d_M_putNumber_30 : decode k_M_putNumber 30 = .ok (.istore_n 3, 1) := by decide +kernel
theorem d_M_putNumber_31 : decode k_M_putNumber 31 = .ok (.iconst 1, 1) := by decide +kernel
theorem d_M_putNumber_32 : decode k_M_putNumber 32 = .ok (.istore 4, 2) := by decide +kernel
theorem d_M_putNumber_34 : decode k_M_putNumber 34 = .ok (.iload_n 3, 1) := by decide +kernel
theorem d_M_putNumber_35 : decode k_M_putNumber 35 = .ok (.iload 4, 2) := by decide +kernel
theorem d_M_putNumber_37 : decode k_M_putNumber 37 = .ok (.idiv, 1) := by decide +kernel
theorem d_M_putNumber_38 : decode k_M_putNumber 38 = .ok (.bipush 9, 2) := by decide +kernel
theorem d_M_putNumber_40 : decode k_M_putNumber 40 = .ok (.if_icmp .le 13, 3) := by decide +kernel
theorem d_M_putNumber_43 : decode k_M_putNumber 43 = .ok (.iload 4, 2) := by decide +kernel
theorem d_M_putNumber_45 : decode k_M_putNumber 45 = .ok (.bipush 10, 2) := by decide +kernel
theorem d_M_putNumber_47 : decode k_M_putNumber 47 = .ok (.imul, 1) := by decide +kernel
theorem d_M_putNumber_48 : decode k_M_putNumber 48 = .ok (.istore 4, 2) := by decide +kernel
theorem d_M_putNumber_50 : decode k_M_putNumber 50 = .ok (.goto (-16), 3) := by decide +kernel
theorem d_M_putNumber_53 : decode k_M_putNumber 53 = .ok (.iload 4, 2) := by decide +kernel
theorem d_M_putNumber_55 : decode k_M_putNumber 55 = .ok (.istore 5, 2) := by decide +kernel
theorem d_M_putNumber_57 : decode k_M_putNumber 57 = .ok (.iload 5, 2) := by decide +kernel
theorem d_M_putNumber_59 : decode k_M_putNumber 59 = .ok (.ifCond .le 27, 3) := by decide +kernel
theorem d_M_putNumber_62 : decode k_M_putNumber 62 = .ok (.aload_n 0, 1) := by decide +kernel
theorem d_M_putNumber_63 : decode k_M_putNumber 63 = .ok (.bipush 48, 2) := by decide +kernel
theorem d_M_putNumber_65 : decode k_M_putNumber 65 = .ok (.iload_n 3, 1) := by decide +kernel
theorem d_M_putNumber_66 : decode k_M_putNumber 66 = .ok (.iload 5, 2) := by decide +kernel
theorem d_M_putNumber_68 : decode k_M_putNumber 68 = .ok (.idiv, 1) := by decide +kernel
theorem d_M_putNumber_69 : decode k_M_putNumber 69 = .ok (.bipush 10, 2) := by decide +kernel
theorem d_M_putNumber_71 : decode k_M_putNumber 71 = .ok (.irem, 1) := by decide +kernel
theorem d_M_putNumber_72 : decode k_M_putNumber 72 = .ok (.iadd, 1) := by decide +kernel
theorem d_M_putNumber_73 : decode k_M_putNumber 73 = .ok (.invokevirtual 195, 3) := by decide +kernel
theorem d_M_putNumber_76 : decode k_M_putNumber 76 = .ok (.iload 5, 2) := by decide +kernel
theorem d_M_putNumber_78 : decode k_M_putNumber 78 = .ok (.bipush 10, 2) := by decide +kernel
theorem d_M_putNumber_80 : decode k_M_putNumber 80 = .ok (.idiv, 1) := by decide +kernel
theorem d_M_putNumber_81 : decode k_M_putNumber 81 = .ok (.istore 5, 2) := by decide +kernel
theorem d_M_putNumber_83 : decode k_M_putNumber 83 = .ok (.goto (-26), 3) := by decide +kernel
theorem d_M_putNumber_86 : decode k_M_putNumber 86 = .ok (.iload_n 2, 1) := by decide +kernel
theorem d_M_putNumber_87 : decode k_M_putNumber 87 = .ok (.aload_n 0, 1) := by decide +kernel
theorem d_M_putNumber_88 : decode k_M_putNumber 88 = .ok (.getfield 49, 3) := by decide +kernel
theorem d_M_putNumber_91 : decode k_M_putNumber 91 = .ok (.invokestatic 198, 3) := by decide +kernel
theorem d_M_putNumber_94 : decode k_M_putNumber 94 = .ok (.irem, 1) := by decide +kernel
theorem d_M_putNumber_95 : decode k_M_putNumber 95 = .ok (.istore 5, 2) := by decide +kernel
theorem d_M_putNumber_97 : decode k_M_putNumber 97 = .ok (.iload 5, 2) := by decide +kernel
theorem d_M_putNumber_99 : decode k_M_putNumber 99 = .ok (.ifCond .le 9, 3) := by decide +kernel
theorem d_M_putNumber_102 : decode k_M_putNumber 102 = .ok (.aload_n 0, 1) := by decide +kernel
theorem d_M_putNumber_103 : decode k_M_putNumber 103 = .ok (.bipush 46, 2) := by decide +kernel
theorem d_M_putNumber_105 : decode k_M_putNumber 105 = .ok (.invokevirtual 195, 3) := by decide +kernel
theorem d_M_putNumber_108 : decode k_M_putNumber 108 = .ok (.aload_n 0, 1) := by decide +kernel
theorem d_M_putNumber_109 : decode k_M_putNumber 109 = .ok (.getfield 49, 3) := by decide +kernel
theorem d_M_putNumber_112 : decode k_M_putNumber 112 = .ok (.invokestatic 198, 3) := by decide +kernel
theorem d_M_putNumber_115 : decode k_M_putNumber 115 = .ok (.bipush 10, 2) := by decide +kernel
theorem d_M_putNumber_117 : decode k_M_putNumber 117 = .ok (.idiv, 1) := by decide +kernel
theorem d_M_putNumber_118 : decode k_M_putNumber 118 = .ok (.istore 6, 2) := by decide +kernel
theorem d_M_putNumber_120 : decode k_M_putNumber 120 = .ok (.iload 5, 2) := by decide +kernel
theorem d_M_putNumber_122 : decode k_M_putNumber 122 = .ok (.ifCond .le 32, 3) := by decide +kernel
theorem d_M_putNumber_125 : decode k_M_putNumber 125 = .ok (.aload_n 0, 1) := by decide +kernel
theorem d_M_putNumber_126 : decode k_M_putNumber 126 = .ok (.bipush 48, 2) := by decide +kernel
theorem d_M_putNumber_128 : decode k_M_putNumber 128 = .ok (.iload 5, 2) := by decide +kernel
theorem d_M_putNumber_130 : decode k_M_putNumber 130 = .ok (.iload 6, 2) := by decide +kernel
theorem d_M_putNumber_132 : decode k_M_putNumber 132 = .ok (.idiv, 1) := by decide +kernel
theorem d_M_putNumber_133 : decode k_M_putNumber 133 = .ok (.iadd, 1) := by decide +kernel
theorem d_M_putNumber_134 : decode k_M_putNumber 134 = .ok (.invokevirtual 195, 3) := by decide +kernel
theorem d_M_putNumber_137 : decode k_M_putNumber 137 = .ok (.iload 5, 2) := by decide +kernel
theorem d_M_putNumber_139 : decode k_M_putNumber 139 = .ok (.iload 6, 2) := by decide +kernel
theorem d_M_putNumber_141 : decode k_M_putNumber 141 = .ok (.irem, 1) := by decide +kernel
theorem d_M_putNumber_142 : decode k_M_putNumber 142 = .ok (.istore 5, 2) := by decide +kernel
theorem d_M_putNumber_144 : decode k_M_putNumber 144 = .ok (.iload 6, 2) := by decide +kernel
theorem d_M_putNumber_146 : decode k_M_putNumber 146 = .ok (.bipush 10, 2) := by decide +kernel
theorem d_M_putNumber_148 : decode k_M_putNumber 148 = .ok (.idiv, 1) := by decide +kernel
theorem d_M_putNumber_149 : decode k_M_putNumber 149 = .ok (.istore 6, 2) := by decide +kernel
theorem d_M_putNumber_151 : decode k_M_putNumber 151 = .ok (.goto (-31), 3) := by decide +kernel
theorem d_M_putNumber_154 : decode k_M_putNumber 154 = .ok (.return_, 1) := by decide +kernel
theorem d_M_putBetween_0 : decode k_M_putBetween 0 = .ok (.aload_n 0, 1) := by decide +kernel
theorem d_M_putBetween_1 : decode k_M_putBetween 1 = .ok (.bipush 44, 2) := by decide +kernel
theorem d_M_putBetween_3 : decode k_M_putBetween 3 = .ok (.invokevirtual 195, 3) := by decide +kernel
theorem d_M_putBetween_6 : decode k_M_putBetween 6 = .ok (.aload_n 0, 1) := by decide +kernel
theorem d_M_putBetween_7 : decode k_M_putBetween 7 = .ok (.bipush 32, 2) := by decide +kernel
theorem d_M_putBetween_9 : decode k_M_putBetween 9 = .ok (.invokevirtual 195, 3) := by decide +kernel
theorem d_M_putBetween_12 : decode k_M_putBetween 12 = .ok (.return_, 1) := by decide +kernel
theorem d_M_putPoints_0 : decode k_M_putPoints 0 = .ok (.aload_n 0, 1) := by decide +kernel
theorem d_M_putPoints_1 : decode k_M_putPoints 1 = .ok (.bipush 40, 2) := by decide +kernel
theorem d_M_putPoints_3 : decode k_M_putPoints 3 = .ok (.invokevirtual 195, 3) := by decide +kernel
theorem d_M_putPoints_6 : decode k_M_putPoints 6 = .ok (.iconst 0, 1) := by decide +kernel
theorem d_M_putPoints_7 : decode k_M_putPoints 7 = .ok (.istore 4, 2) := by decide +kernel
theorem d_M_putPoints_9 : decode k_M_putPoints 9 = .ok (.iload 4, 2) := by decide +kernel
theorem d_M_putPoints_11 : decode k_M_putPoints 11 = .ok (.iload_n 3, 1) := by decide +kernel
theorem d_M_putPoints_12 : decode k_M_putPoints 12 = .ok (.if_icmp .ge 62, 3) := by decide +kernel
theorem d_M_putPoints_15 : decode k_M_putPoints 15 = .ok (.iconst 2, 1) := by decide +kernel
theorem d_M_putPoints_16 : decode k_M_putPoints 16 = .ok (.sipush 4096, 3) := by decide +kernel
theorem d_M_putPoints_19 : decode k_M_putPoints 19 = .ok (.iload_n 1, 1) := by decide +kernel
theorem d_M_putPoints_20 : decode k_M_putPoints 20 = .ok (.imul, 1) := by decide +kernel
theorem d_M_putPoints_21 : decode k_M_putPoints 21 = .ok (.iload_n 2, 1) := by decide +kernel
theorem d_M_putPoints_22 : decode k_M_putPoints 22 = .ok (.iadd, 1) := by decide +kernel
theorem d_M_putPoints_23 : decode k_M_putPoints 23 = .ok (.iload 4, 2) := by decide +kernel
theorem d_M_putPoints_25 : decode k_M_putPoints 25 = .ok (.iadd, 1) := by decide +kernel
theorem d_M_putPoints_26 : decode k_M_putPoints 26 = .ok (.imul, 1) := by decide +kernel
theorem d_M_putPoints_27 : decode k_M_putPoints 27 = .ok (.istore 5, 2) := by decide +kernel
theorem d_M_putPoints_29 : decode k_M_putPoints 29 = .ok (.iload 4, 2) := by decide +kernel
theorem d_M_putPoints_31 : decode k_M_putPoints 31 = .ok (.ifCond .le 7, 3) := by decide +kernel
theorem d_M_putPoints_34 : decode k_M_putPoints 34 = .ok (.aload_n 0, 1) := by decide +kernel
theorem d_M_putPoints_35 : decode k_M_putPoints 35 = .ok (.invokevirtual 201, 3) := by decide +kernel
theorem d_M_putPoints_38 : decode k_M_putPoints 38 = .ok (.aload_n 0, 1) := by decide +kernel
theorem d_M_putPoints_39 : decode k_M_putPoints 39 = .ok (.aload_n 0, 1) := by decide +kernel
theorem d_M_putPoints_40 : decode k_M_putPoints 40 = .ok (.getfield 27, 3) := by decide +kernel
theorem d_M_putPoints_43 : decode k_M_putPoints 43 = .ok (.iload 5, 2) := by decide +kernel
theorem d_M_putPoints_45 : decode k_M_putPoints 45 = .ok (.iaload, 1) := by decide +kernel
theorem d_M_putPoints_46 : decode k_M_putPoints 46 = .ok (.invokevirtual 204, 3) := by decide +kernel
theorem d_M_putPoints_49 : decode k_M_putPoints 49 = .ok (.aload_n 0, 1) := by decide +kernel
theorem d_M_putPoints_50 : decode k_M_putPoints 50 = .ok (.bipush 32, 2) := by decide +kernel
theorem d_M_putPoints_52 : decode k_M_putPoints 52 = .ok (.invokevirtual 195, 3) := by decide +kernel
theorem d_M_putPoints_55 : decode k_M_putPoints 55 = .ok (.aload_n 0, 1) := by decide +kernel
theorem d_M_putPoints_56 : decode k_M_putPoints 56 = .ok (.aload_n 0, 1) := by decide +kernel
theorem d_M_putPoints_57 : decode k_M_putPoints 57 = .ok (.getfield 27, 3) := by decide +kernel
theorem d_M_putPoints_60 : decode k_M_putPoints 60 = .ok (.iload 5, 2) := by decide +kernel
theorem d_M_putPoints_62 : decode k_M_putPoints 62 = .ok (.iconst 1, 1) := by decide +kernel
theorem d_M_putPoints_63 : decode k_M_putPoints 63 = .ok (.iadd, 1) := by decide +kernel
theorem d_M_putPoints_64 : decode k_M_putPoints 64 = .ok (.iaload, 1) := by decide +kernel
theorem d_M_putPoints_65 : decode k_M_putPoints 65 = .ok (.invokevirtual 204, 3) := by decide +kernel
theorem d_M_putPoints_68 : decode k_M_putPoints 68 = .ok (.iinc 4 1, 3) := by decide +kernel
theorem d_M_putPoints_71 : decode k_M_putPoints 71 = .ok (.goto (-62), 3) := by decide +kernel
theorem d_M_putPoints_74 : decode k_M_putPoints 74 = .ok (.aload_n 0, 1) := by decide +kernel
theorem d_M_putPoints_75 : decode k_M_putPoints 75 = .ok (.bipush 41, 2) := by decide +kernel
theorem d_M_putPoints_77 : decode k_M_putPoints 77 = .ok (.invokevirtual 195, 3) := by decide +kernel
theorem d_M_putPoints_80 : decode k_M_putPoints 80 = .ok (.return_, 1) := by decide +kernel
theorem d_M_putAll_0 : decode k_M_putAll 0 = .ok (.iconst 0, 1) := by decide +kernel
theorem d_M_putAll_1 : decode k_M_putAll 1 = .ok (.istore_n 2, 1) := by decide +kernel
theorem d_M_putAll_2 : decode k_M_putAll 2 = .ok (.sipush 4096, 3) := by decide +kernel
theorem d_M_putAll_5 : decode k_M_putAll 5 = .ok (.iload_n 1, 1) := by decide +kernel
theorem d_M_putAll_6 : decode k_M_putAll 6 = .ok (.imul, 1) := by decide +kernel
theorem d_M_putAll_7 : decode k_M_putAll 7 = .ok (.istore_n 3, 1) := by decide +kernel
theorem d_M_putAll_8 : decode k_M_putAll 8 = .ok (.iconst 0, 1) := by decide +kernel
theorem d_M_putAll_9 : decode k_M_putAll 9 = .ok (.istore 4, 2) := by decide +kernel
theorem d_M_putAll_11 : decode k_M_putAll 11 = .ok (.iconst 1, 1) := by decide +kernel
theorem d_M_putAll_12 : decode k_M_putAll 12 = .ok (.istore 5, 2) := by decide +kernel
theorem d_M_putAll_14 : decode k_M_putAll 14 = .ok (.iload 5, 2) := by decide +kernel
theorem d_M_putAll_16 : decode k_M_putAll 16 = .ok (.ifCond .eq 290, 3) := by decide +kernel
theorem d_M_putAll_19 : decode k_M_putAll 19 = .ok (.aload_n 0, 1) := by decide +kernel
theorem d_M_putAll_20 : decode k_M_putAll 20 = .ok (.getfield 20, 3) := by decide +kernel
theorem d_M_putAll_23 : decode k_M_putAll 23 = .ok (.iload_n 3, 1) := by decide +kernel
theorem d_M_putAll_24 : decode k_M_putAll 24 = .ok (.iaload, 1) := by decide +kernel
theorem d_M_putAll_25 : decode k_M_putAll 25 = .ok (.istore 6, 2) := by decide +kernel
theorem d_M_putAll_27 : decode k_M_putAll 27 = .ok (.aload_n 0, 1) := by decide +kernel
theorem d_M_putAll_28 : decode k_M_putAll 28 = .ok (.getfield 20, 3) := by decide +kernel
theorem d_M_putAll_31 : decode k_M_putAll 31 = .ok (.iload_n 3, 1) := by decide +kernel
theorem d_M_putAll_32 : decode k_M_putAll 32 = .ok (.iconst 1, 1) := by decide +kernel
theorem d_M_putAll_33 : decode k_M_putAll 33 = .ok (.iadd, 1) := by decide +kernel
theorem d_M_putAll_34 : decode k_M_putAll 34 = .ok (.iaload, 1) := by decide +kernel
theorem d_M_putAll_35 : decode k_M_putAll 35 = .ok (.istore 7, 2) := by decide +kernel
theorem d_M_putAll_37 : decode k_M_putAll 37 = .ok (.iinc 3 2, 3) := by decide +kernel
theorem d_M_putAll_40 : decode k_M_putAll 40 = .ok (.iload_n 2, 1) := by decide +kernel
theorem d_M_putAll_41 : decode k_M_putAll 41 = .ok (.ifCond .eq 16, 3) := by decide +kernel
theorem d_M_putAll_44 : decode k_M_putAll 44 = .ok (.aload_n 0, 1) := by decide +kernel
theorem d_M_putAll_45 : decode k_M_putAll 45 = .ok (.getfield 46, 3) := by decide +kernel
theorem d_M_putAll_48 : decode k_M_putAll 48 = .ok (.iload_n 2, 1) := by decide +kernel
theorem d_M_putAll_49 : decode k_M_putAll 49 = .ok (.iconst 1, 1) := by decide +kernel
theorem d_M_putAll_50 : decode k_M_putAll 50 = .ok (.isub, 1) := by decide +kernel
theorem d_M_putAll_51 : decode k_M_putAll 51 = .ok (.iaload, 1) := by decide +kernel
theorem d_M_putAll_52 : decode k_M_putAll 52 = .ok (.bipush 7, 2) := by decide +kernel
theorem d_M_putAll_54 : decode k_M_putAll 54 = .ok (.if_icmp .ne 15, 3) := by decide +kernel
theorem d_M_putAll_57 : decode k_M_putAll 57 = .ok (.aload_n 0, 1) := by decide +kernel
theorem d_M_putAll_58 : decode k_M_putAll 58 = .ok (.iload 6, 2) := by decide +kernel
theorem d_M_putAll_60 : decode k_M_putAll 60 = .ok (.invokevirtual 207, 3) := by decide +kernel
theorem d_M_putAll_63 : decode k_M_putAll 63 = .ok (.aload_n 0, 1) := by decide +kernel
theorem d_M_putAll_64 : decode k_M_putAll 64 = .ok (.bipush 32, 2) := by decide +kernel
theorem d_M_putAll_66 : decode k_M_putAll 66 = .ok (.invokevirtual 195, 3) := by decide +kernel
theorem d_M_putAll_69 : decode k_M_putAll 69 = .ok (.iload 6, 2) := by decide +kernel
theorem d_M_putAll_71 : decode k_M_putAll 71 = .ok (.iconst 4, 1) := by decide +kernel
theorem d_M_putAll_72 : decode k_M_putAll 72 = .ok (.if_icmp .lt 8, 3) := by decide +kernel
theorem d_M_putAll_75 : decode k_M_putAll 75 = .ok (.iload 7, 2) := by decide +kernel
theorem d_M_putAll_77 : decode k_M_putAll 77 = .ok (.ifCond .ne 7, 3) := by decide +kernel
theorem d_M_putAll_80 : decode k_M_putAll 80 = .ok (.iconst 1, 1) := by decide +kernel
theorem d_M_putAll_81 : decode k_M_putAll 81 = .ok (.goto 4, 3) := by decide +kernel
theorem d_M_putAll_84 : decode k_M_putAll 84 = .ok (.iconst 0, 1) := by decide +kernel
theorem d_M_putAll_85 : decode k_M_putAll 85 = .ok (.istore 8, 2) := by decide +kernel
theorem d_M_putAll_87 : decode k_M_putAll 87 = .ok (.iload 7, 2) := by decide +kernel
theorem d_M_putAll_89 : decode k_M_putAll 89 = .ok (.ifCond .ne 12, 3) := by decide +kernel
theorem d_M_putAll_92 : decode k_M_putAll 92 = .ok (.aload_n 0, 1) := by decide +kernel
theorem d_M_putAll_93 : decode k_M_putAll 93 = .ok (.bipush 8, 2) := by decide +kernel
theorem d_M_putAll_95 : decode k_M_putAll 95 = .ok (.invokevirtual 207, 3) := by decide +kernel
theorem d_M_putAll_98 : decode k_M_putAll 98 = .ok (.goto 34, 3) := by decide +kernel
theorem d_M_putAll_101 : decode k_M_putAll 101 = .ok (.iload 6, 2) := by decide +kernel
theorem d_M_putAll_103 : decode k_M_putAll 103 = .ok (.iconst 3, 1) := by decide +kernel
theorem d_M_putAll_104 : decode k_M_putAll 104 = .ok (.if_icmp .ge 22, 3) := by decide +kernel
theorem d_M_putAll_107 : decode k_M_putAll 107 = .ok (.aload_n 0, 1) := by decide +kernel
theorem d_M_putAll_108 : decode k_M_putAll 108 = .ok (.iload_n 1, 1) := by decide +kernel
theorem d_M_putAll_109 : decode k_M_putAll 109 = .ok (.iload 4, 2) := by decide +kernel
theorem d_M_putAll_111 : decode k_M_putAll 111 = .ok (.iload 7, 2) := by decide +kernel
theorem d_M_putAll_113 : decode k_M_putAll 113 = .ok (.invokevirtual 210, 3) := by decide +kernel
theorem d_M_putAll_116 : decode k_M_putAll 116 = .ok (.iload 4, 2) := by decide +kernel
theorem d_M_putAll_118 : decode k_M_putAll 118 = .ok (.iload 7, 2) := by decide +kernel
theorem d_M_putAll_120 : decode k_M_putAll 120 = .ok (.iadd, 1) := by decide +kernel
theorem d_M_putAll_121 : decode k_M_putAll 121 = .ok (.istore 4, 2) := by decide +kernel
theorem d_M_putAll_123 : decode k_M_putAll 123 = .ok (.goto 9, 3) := by decide +kernel
theorem d_M_putAll_126 : decode k_M_putAll 126 = .ok (.aload_n 0, 1) := by decide +kernel
theorem d_M_putAll_127 : decode k_M_putAll 127 = .ok (.bipush 40, 2) := by decide +kernel
theorem d_M_putAll_129 : decode k_M_putAll 129 = .ok (.invokevirtual 195, 3) := by decide +kernel
theorem d_M_putAll_132 : decode k_M_putAll 132 = .ok (.iload 6, 2) := by decide +kernel
theorem d_M_putAll_134 : decode k_M_putAll 134 = .ok (.iconst 3, 1) := by decide +kernel
theorem d_M_putAll_135 : decode k_M_putAll 135 = .ok (.if_icmp .ne 69, 3) := by decide +kernel
theorem d_M_putAll_138 : decode k_M_putAll 138 = .ok (.iload 7, 2) := by decide +kernel
theorem d_M_putAll_140 : decode k_M_putAll 140 = .ok (.ifCond .le 64, 3) := by decide +kernel
theorem d_M_putAll_143 : decode k_M_putAll 143 = .ok (.iconst 0, 1) := by decide +kernel
theorem d_M_putAll_144 : decode k_M_putAll 144 = .ok (.istore 9, 2) := by decide +kernel
theorem d_M_putAll_146 : decode k_M_putAll 146 = .ok (.iload 9, 2) := by decide +kernel
theorem d_M_putAll_148 : decode k_M_putAll 148 = .ok (.iload 7, 2) := by decide +kernel
theorem d_M_putAll_150 : decode k_M_putAll 150 = .ok (.if_icmp .ge 45, 3) := by decide +kernel
theorem d_M_putAll_153 : decode k_M_putAll 153 = .ok (.iload 9, 2) := by decide +kernel
theorem d_M_putAll_155 : decode k_M_putAll 155 = .ok (.ifCond .le 7, 3) := by decide +kernel
theorem d_M_putAll_158 : decode k_M_putAll 158 = .ok (.aload_n 0, 1) := by decide +kernel
theorem d_M_putAll_159 : decode k_M_putAll 159 = .ok (.invokevirtual 201, 3) := by decide +kernel
theorem d_M_putAll_162 : decode k_M_putAll 162 = .ok (.aload_n 0, 1) := by decide +kernel
theorem d_M_putAll_163 : decode k_M_putAll 163 = .ok (.iload_n 1, 1) := by decide +kernel
theorem d_M_putAll_164 : decode k_M_putAll 164 = .ok (.iload 4, 2) := by decide +kernel
theorem d_M_putAll_166 : decode k_M_putAll 166 = .ok (.aload_n 0, 1) := by decide +kernel
theorem d_M_putAll_167 : decode k_M_putAll 167 = .ok (.getfield 20, 3) := by decide +kernel
theorem d_M_putAll_170 : decode k_M_putAll 170 = .ok (.iload_n 3, 1) := by decide +kernel
theorem d_M_putAll_171 : decode k_M_putAll 171 = .ok (.iaload, 1) := by decide +kernel
theorem d_M_putAll_172 : decode k_M_putAll 172 = .ok (.invokevirtual 210, 3) := by decide +kernel
theorem d_M_putAll_175 : decode k_M_putAll 175 = .ok (.iload 4, 2) := by decide +kernel
theorem d_M_putAll_177 : decode k_M_putAll 177 = .ok (.aload_n 0, 1) := by decide +kernel
theorem d_M_putAll_178 : decode k_M_putAll 178 = .ok (.getfield 20, 3) := by decide +kernel
theorem d_M_putAll_181 : decode k_M_putAll 181 = .ok (.iload_n 3, 1) := by decide +kernel
theorem d_M_putAll_182 : decode k_M_putAll 182 = .ok (.iaload, 1) := by decide +kernel
theorem d_M_putAll_183 : decode k_M_putAll 183 = .ok (.iadd, 1) := by decide +kernel
theorem d_M_putAll_184 : decode k_M_putAll 184 = .ok (.istore 4, 2) := by decide +kernel
theorem d_M_putAll_186 : decode k_M_putAll 186 = .ok (.iinc 3 1, 3) := by decide +kernel
theorem d_M_putAll_189 : decode k_M_putAll 189 = .ok (.iinc 9 1, 3) := by decide +kernel
theorem d_M_putAll_192 : decode k_M_putAll 192 = .ok (.goto (-46), 3) := by decide +kernel
theorem d_M_putAll_195 : decode k_M_putAll 195 = .ok (.aload_n 0, 1) := by decide +kernel
theorem d_M_putAll_196 : decode k_M_putAll 196 = .ok (.bipush 41, 2) := by decide +kernel
theorem d_M_putAll_198 : decode k_M_putAll 198 = .ok (.invokevirtual 195, 3) := by decide +kernel
theorem d_M_putAll_201 : decode k_M_putAll 201 = .ok (.goto 27, 3) := by decide +kernel
theorem d_M_putAll_204 : decode k_M_putAll 204 = .ok (.iload 8, 2) := by decide +kernel
theorem d_M_putAll_206 : decode k_M_putAll 206 = .ok (.ifCond .ne 22, 3) := by decide +kernel
theorem d_M_putAll_209 : decode k_M_putAll 209 = .ok (.aload_n 0, 1) := by decide +kernel
theorem d_M_putAll_210 : decode k_M_putAll 210 = .ok (.getfield 46, 3) := by decide +kernel
theorem d_M_putAll_213 : decode k_M_putAll 213 = .ok (.iload_n 2, 1) := by decide +kernel
theorem d_M_putAll_214 : decode k_M_putAll 214 = .ok (.iload 6, 2) := by decide +kernel
theorem d_M_putAll_216 : decode k_M_putAll 216 = .ok (.iastore, 1) := by decide +kernel
theorem d_M_putAll_217 : decode k_M_putAll 217 = .ok (.aload_n 0, 1) := by decide +kernel
theorem d_M_putAll_218 : decode k_M_putAll 218 = .ok (.getfield 43, 3) := by decide +kernel
theorem d_M_putAll_221 : decode k_M_putAll 221 = .ok (.iload_n 2, 1) := by decide +kernel
theorem d_M_putAll_222 : decode k_M_putAll 222 = .ok (.iload 7, 2) := by decide +kernel
theorem d_M_putAll_224 : decode k_M_putAll 224 = .ok (.iastore, 1) := by decide +kernel
theorem d_M_putAll_225 : decode k_M_putAll 225 = .ok (.iinc 2 1, 3) := by decide +kernel
theorem d_M_putAll_228 : decode k_M_putAll 228 = .ok (.iload 8, 2) := by decide +kernel
theorem d_M_putAll_230 : decode k_M_putAll 230 = .ok (.ifCond .eq 61, 3) := by decide +kernel
theorem d_M_putAll_233 : decode k_M_putAll 233 = .ok (.iload_n 2, 1) := by decide +kernel
theorem d_M_putAll_234 : decode k_M_putAll 234 = .ok (.ifCond .le 57, 3) := by decide +kernel
theorem d_M_putAll_237 : decode k_M_putAll 237 = .ok (.aload_n 0, 1) := by decide +kernel
theorem d_M_putAll_238 : decode k_M_putAll 238 = .ok (.getfield 43, 3) := by decide +kernel
theorem d_M_putAll_241 : decode k_M_putAll 241 = .ok (.iload_n 2, 1) := by decide +kernel
theorem d_M_putAll_242 : decode k_M_putAll 242 = .ok (.iconst 1, 1) := by decide +kernel
theorem d_M_putAll_243 : decode k_M_putAll 243 = .ok (.isub, 1) := by decide +kernel
theorem d_M_putAll_244 : decode k_M_putAll 244 = .ok (.dup2, 1) := by decide +kernel
theorem d_M_putAll_245 : decode k_M_putAll 245 = .ok (.iaload, 1) := by decide +kernel
theorem d_M_putAll_246 : decode k_M_putAll 246 = .ok (.iconst 1, 1) := by decide +kernel
theorem d_M_putAll_247 : decode k_M_putAll 247 = .ok (.isub, 1) := by decide +kernel
theorem d_M_putAll_248 : decode k_M_putAll 248 = .ok (.iastore, 1) := by decide +kernel
theorem d_M_putAll_249 : decode k_M_putAll 249 = .ok (.aload_n 0, 1) := by decide +kernel
theorem d_M_putAll_250 : decode k_M_putAll 250 = .ok (.getfield 43, 3) := by decide +kernel
theorem d_M_putAll_253 : decode k_M_putAll 253 = .ok (.iload_n 2, 1) := by decide +kernel
theorem d_M_putAll_254 : decode k_M_putAll 254 = .ok (.iconst 1, 1) := by decide +kernel
theorem d_M_putAll_255 : decode k_M_putAll 255 = .ok (.isub, 1) := by decide +kernel
theorem d_M_putAll_256 : decode k_M_putAll 256 = .ok (.iaload, 1) := by decide +kernel
theorem d_M_putAll_257 : decode k_M_putAll 257 = .ok (.ifCond .ne 7, 3) := by decide +kernel
theorem d_M_putAll_260 : decode k_M_putAll 260 = .ok (.iconst 1, 1) := by decide +kernel
theorem d_M_putAll_261 : decode k_M_putAll 261 = .ok (.goto 4, 3) := by decide +kernel
theorem d_M_putAll_264 : decode k_M_putAll 264 = .ok (.iconst 0, 1) := by decide +kernel
theorem d_M_putAll_265 : decode k_M_putAll 265 = .ok (.istore 8, 2) := by decide +kernel
theorem d_M_putAll_267 : decode k_M_putAll 267 = .ok (.iload 8, 2) := by decide +kernel
theorem d_M_putAll_269 : decode k_M_putAll 269 = .ok (.ifCond .eq 15, 3) := by decide +kernel
theorem d_M_putAll_272 : decode k_M_putAll 272 = .ok (.aload_n 0, 1) := by decide +kernel
theorem d_M_putAll_273 : decode k_M_putAll 273 = .ok (.bipush 41, 2) := by decide +kernel
theorem d_M_putAll_275 : decode k_M_putAll 275 = .ok (.invokevirtual 195, 3) := by decide +kernel
theorem d_M_putAll_278 : decode k_M_putAll 278 = .ok (.iinc 2 (-1), 3) := by decide +kernel
theorem d_M_putAll_281 : decode k_M_putAll 281 = .ok (.goto (-53), 3) := by decide +kernel
theorem d_M_putAll_284 : decode k_M_putAll 284 = .ok (.aload_n 0, 1) := by decide +kernel
theorem d_M_putAll_285 : decode k_M_putAll 285 = .ok (.invokevirtual 201, 3) := by decide +kernel
theorem d_M_putAll_288 : decode k_M_putAll 288 = .ok (.goto (-60), 3) := by decide +kernel
theorem d_M_putAll_291 : decode k_M_putAll 291 = .ok (.iload 8, 2) := by decide +kernel
theorem d_M_putAll_293 : decode k_M_putAll 293 = .ok (.ifCond .ne 7, 3) := by decide +kernel
theorem d_M_putAll_296 : decode k_M_putAll 296 = .ok (.iconst 1, 1) := by decide +kernel
theorem d_M_putAll_297 : decode k_M_putAll 297 = .ok (.goto 4, 3) := by decide +kernel
theorem d_M_putAll_300 : decode k_M_putAll 300 = .ok (.iconst 0, 1) := by decide +kernel
theorem d_M_putAll_301 : decode k_M_putAll 301 = .ok (.istore 5, 2) := by decide +kernel
theorem d_M_putAll_303 : decode k_M_putAll 303 = .ok (.goto (-289), 3) := by decide +kernel
theorem d_M_putAll_306 : decode k_M_putAll 306 = .ok (.return_, 1) := by decide +kernel
theorem d_M_write_0 : decode k_M_write 0 = .ok (.aload_n 0, 1) := by decide +kernel
theorem d_M_write_1 : decode k_M_write 1 = .ok (.iconst 0, 1) := by decide +kernel
theorem d_M_write_2 : decode k_M_write 2 = .ok (.putfield 59, 3) := by decide +kernel
theorem d_M_write_5 : decode k_M_write 5 = .ok (.iload_n 1, 1) := by decide +kernel
theorem d_M_write_6 : decode k_M_write 6 = .ok (.invokestatic 186, 3) := by decide +kernel
theorem d_M_write_9 : decode k_M_write 9 = .ok (.ifCond .ne 9, 3) := by decide +kernel
theorem d_M_write_12 : decode k_M_write 12 = .ok (.aload_n 0, 1) := by decide +kernel
theorem d_M_write_13 : decode k_M_write 13 = .ok (.iconst 1, 1) := by decide +kernel
theorem d_M_write_14 : decode k_M_write 14 = .ok (.invokevirtual 69, 3) := by decide +kernel
theorem d_M_write_17 : decode k_M_write 17 = .ok (.ireturn, 1) := by decide +kernel
theorem d_M_write_18 : decode k_M_write 18 = .ok (.aload_n 0, 1) := by decide +kernel
theorem d_M_write_19 : decode k_M_write 19 = .ok (.getfield 23, 3) := by decide +kernel
theorem d_M_write_22 : decode k_M_write 22 = .ok (.iload_n 1, 1) := by decide +kernel
theorem d_M_write_23 : decode k_M_write 23 = .ok (.iaload, 1) := by decide +kernel
theorem d_M_write_24 : decode k_M_write 24 = .ok (.ifCond .ne 9, 3) := by decide +kernel
theorem d_M_write_27 : decode k_M_write 27 = .ok (.aload_n 0, 1) := by decide +kernel
theorem d_M_write_28 : decode k_M_write 28 = .ok (.iconst 2, 1) := by decide +kernel
theorem d_M_write_29 : decode k_M_write 29 = .ok (.invokevirtual 69, 3) := by decide +kernel
theorem d_M_write_32 : decode k_M_write 32 = .ok (.ireturn, 1) := by decide +kernel
theorem d_M_write_33 : decode k_M_write 33 = .ok (.aload_n 0, 1) := by decide +kernel
theorem d_M_write_34 : decode k_M_write 34 = .ok (.iconst 0, 1) := by decide +kernel
theorem d_M_write_35 : decode k_M_write 35 = .ok (.putfield 192, 3) := by decide +kernel
theorem d_M_write_38 : decode k_M_write 38 = .ok (.aload_n 0, 1) := by decide +kernel
theorem d_M_write_39 : decode k_M_write 39 = .ok (.iload_n 1, 1) := by decide +kernel
theorem d_M_write_40 : decode k_M_write 40 = .ok (.invokevirtual 214, 3) := by decide +kernel
theorem d_M_write_43 : decode k_M_write 43 = .ok (.aload_n 0, 1) := by decide +kernel
theorem d_M_write_44 : decode k_M_write 44 = .ok (.getfield 192, 3) := by decide +kernel
theorem d_M_write_47 : decode k_M_write 47 = .ok (.ldc 33, 2) := by decide +kernel
theorem d_M_write_49 : decode k_M_write 49 = .ok (.if_icmp .le 9, 3) := by decide +kernel
theorem d_M_write_52 : decode k_M_write 52 = .ok (.aload_n 0, 1) := by decide +kernel
theorem d_M_write_53 : decode k_M_write 53 = .ok (.iconst 3, 1) := by decide +kernel
theorem d_M_write_54 : decode k_M_write 54 = .ok (.invokevirtual 69, 3) := by decide +kernel
theorem d_M_write_57 : decode k_M_write 57 = .ok (.ireturn, 1) := by decide +kernel
theorem d_M_write_58 : decode k_M_write 58 = .ok (.iconst 0, 1) := by decide +kernel
theorem d_M_write_59 : decode k_M_write 59 = .ok (.istore_n 2, 1) := by decide +kernel
theorem d_M_write_60 : decode k_M_write 60 = .ok (.iload_n 2, 1) := by decide +kernel
theorem d_M_write_61 : decode k_M_write 61 = .ok (.aload_n 0, 1) := by decide +kernel
theorem d_M_write_62 : decode k_M_write 62 = .ok (.getfield 192, 3) := by decide +kernel
theorem d_M_write_65 : decode k_M_write 65 = .ok (.if_icmp .ge 21, 3) := by decide +kernel
theorem d_M_write_68 : decode k_M_write 68 = .ok (.aload_n 0, 1) := by decide +kernel
theorem d_M_write_69 : decode k_M_write 69 = .ok (.getfield 34, 3) := by decide +kernel
theorem d_M_write_72 : decode k_M_write 72 = .ok (.iload_n 2, 1) := by decide +kernel
theorem d_M_write_73 : decode k_M_write 73 = .ok (.aload_n 0, 1) := by decide +kernel
theorem d_M_write_74 : decode k_M_write 74 = .ok (.getfield 37, 3) := by decide +kernel
theorem d_M_write_77 : decode k_M_write 77 = .ok (.iload_n 2, 1) := by decide +kernel
theorem d_M_write_78 : decode k_M_write 78 = .ok (.iaload, 1) := by decide +kernel
theorem d_M_write_79 : decode k_M_write 79 = .ok (.iastore, 1) := by decide +kernel
theorem d_M_write_80 : decode k_M_write 80 = .ok (.iinc 2 1, 3) := by decide +kernel
theorem d_M_write_83 : decode k_M_write 83 = .ok (.goto (-23), 3) := by decide +kernel
theorem d_M_write_86 : decode k_M_write 86 = .ok (.aload_n 0, 1) := by decide +kernel
theorem d_M_write_87 : decode k_M_write 87 = .ok (.aload_n 0, 1) := by decide +kernel
theorem d_M_write_88 : decode k_M_write 88 = .ok (.getfield 192, 3) := by decide +kernel
theorem d_M_write_91 : decode k_M_write 91 = .ok (.putfield 217, 3) := by decide +kernel
theorem d_M_write_94 : decode k_M_write 94 = .ok (.aload_n 0, 1) := by decide +kernel
theorem d_M_write_95 : decode k_M_write 95 = .ok (.getfield 217, 3) := by decide +kernel
theorem d_M_write_98 : decode k_M_write 98 = .ok (.ireturn, 1) := by decide +kernel
theorem d_M_again_0 : decode k_M_again 0 = .ok (.aload_n 0, 1) := by decide +kernel
theorem d_M_again_1 : decode k_M_again 1 = .ok (.iconst 0, 1) := by decide +kernel
