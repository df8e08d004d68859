theorem dX10_measure_70 : decode cX10_measure 70 = .ok (.iload_n 2, 1) := by decide +kernel
theorem dX10_measure_71 : decode cX10_measure 71 = .ok (.iadd, 1) := by decide +kernel
theorem dX10_measure_72 : decode cX10_measure 72 = .ok (.invokestatic 59, 3) := by decide +kernel
theorem dX10_measure_75 : decode cX10_measure 75 = .ok (.istore 4, 2) := by decide +kernel
theorem dX10_measure_77 : decode cX10_measure 77 = .ok (.aload_n 1, 1) := by decide +kernel
theorem dX10_measure_78 : decode cX10_measure 78 = .ok (.aload_n 0, 1) := by decide +kernel
theorem dX10_measure_79 : decode cX10_measure 79 = .ok (.getfield 9, 3) := by decide +kernel
theorem dX10_measure_82 : decode cX10_measure 82 = .ok (.iload_n 3, 1) := by decide +kernel
theorem dX10_measure_83 : decode cX10_measure 83 = .ok (.iaload, 1) := by decide +kernel
theorem dX10_measure_84 : decode cX10_measure 84 = .ok (.aaload, 1) := by decide +kernel
theorem dX10_measure_85 : decode cX10_measure 85 = .ok (.aload_n 0, 1) := by decide +kernel
theorem dX10_measure_86 : decode cX10_measure 86 = .ok (.getfield 15, 3) := by decide +kernel
theorem dX10_measure_89 : decode cX10_measure 89 = .ok (.iload_n 3, 1) := by decide +kernel
theorem dX10_measure_90 : decode cX10_measure 90 = .ok (.iaload, 1) := by decide +kernel
theorem dX10_measure_91 : decode cX10_measure 91 = .ok (.iload 4, 2) := by decide +kernel
theorem dX10_measure_93 : decode cX10_measure 93 = .ok (.iastore, 1) := by decide +kernel
theorem dX10_measure_94 : decode cX10_measure 94 = .ok (.aload_n 1, 1) := by decide +kernel
theorem dX10_measure_95 : decode cX10_measure 95 = .ok (.aload_n 0, 1) := by decide +kernel
theorem dX10_measure_96 : decode cX10_measure 96 = .ok (.getfield 15, 3) := by decide +kernel
theorem dX10_measure_99 : decode cX10_measure 99 = .ok (.iload_n 3, 1) := by decide +kernel
theorem dX10_measure_100 : decode cX10_measure 100 = .ok (.iaload, 1) := by decide +kernel
theorem dX10_measure_101 : decode cX10_measure 101 = .ok (.aaload, 1) := by decide +kernel
theorem dX10_measure_102 : decode cX10_measure 102 = .ok (.aload_n 0, 1) := by decide +kernel
theorem dX10_measure_103 : decode cX10_measure 103 = .ok (.getfield 9, 3) := by decide +kernel
theorem dX10_measure_106 : decode cX10_measure 106 = .ok (.iload_n 3, 1) := by decide +kernel
theorem dX10_measure_107 : decode cX10_measure 107 = .ok (.iaload, 1) := by decide +kernel
theorem dX10_measure_108 : decode cX10_measure 108 = .ok (.iload 4, 2) := by decide +kernel
theorem dX10_measure_110 : decode cX10_measure 110 = .ok (.iastore, 1) := by decide +kernel
theorem dX10_measure_111 : decode cX10_measure 111 = .ok (.iinc 3 1, 3) := by decide +kernel
theorem dX10_measure_114 : decode cX10_measure 114 = .ok (.goto (-82), 3) := by decide +kernel
theorem dX10_measure_117 : decode cX10_measure 117 = .ok (.iconst 0, 1) := by decide +kernel
theorem dX10_measure_118 : decode cX10_measure 118 = .ok (.istore_n 3, 1) := by decide +kernel
theorem dX10_measure_119 : decode cX10_measure 119 = .ok (.iload_n 3, 1) := by decide +kernel
theorem dX10_measure_120 : decode cX10_measure 120 = .ok (.aload_n 0, 1) := by decide +kernel
theorem dX10_measure_121 : decode cX10_measure 121 = .ok (.getfield 33, 3) := by decide +kernel
theorem dX10_measure_124 : decode cX10_measure 124 = .ok (.if_icmp .ge 75, 3) := by decide +kernel
theorem dX10_measure_127 : decode cX10_measure 127 = .ok (.iconst 0, 1) := by decide +kernel
theorem dX10_measure_128 : decode cX10_measure 128 = .ok (.istore 4, 2) := by decide +kernel
theorem dX10_measure_130 : decode cX10_measure 130 = .ok (.iload 4, 2) := by decide +kernel
theorem dX10_measure_132 : decode cX10_measure 132 = .ok (.aload_n 0, 1) := by decide +kernel
theorem dX10_measure_133 : decode cX10_measure 133 = .ok (.getfield 33, 3) := by decide +kernel
theorem dX10_measure_136 : decode cX10_measure 136 = .ok (.if_icmp .ge 57, 3) := by decide +kernel
theorem dX10_measure_139 : decode cX10_measure 139 = .ok (.iconst 0, 1) := by decide +kernel
theorem dX10_measure_140 : decode cX10_measure 140 = .ok (.istore 5, 2) := by decide +kernel
theorem dX10_measure_142 : decode cX10_measure 142 = .ok (.iload 5, 2) := by decide +kernel
theorem dX10_measure_144 : decode cX10_measure 144 = .ok (.aload_n 0, 1) := by decide +kernel
theorem dX10_measure_145 : decode cX10_measure 145 = .ok (.getfield 33, 3) := by decide +kernel
theorem dX10_measure_148 : decode cX10_measure 148 = .ok (.if_icmp .ge 39, 3) := by decide +kernel
theorem dX10_measure_151 : decode cX10_measure 151 = .ok (.aload_n 1, 1) := by decide +kernel
theorem dX10_measure_152 : decode cX10_measure 152 = .ok (.iload 4, 2) := by decide +kernel
theorem dX10_measure_154 : decode cX10_measure 154 = .ok (.aaload, 1) := by decide +kernel
theorem dX10_measure_155 : decode cX10_measure 155 = .ok (.iload 5, 2) := by decide +kernel
theorem dX10_measure_157 : decode cX10_measure 157 = .ok (.aload_n 1, 1) := by decide +kernel
theorem dX10_measure_158 : decode cX10_measure 158 = .ok (.iload 4, 2) := by decide +kernel
theorem dX10_measure_160 : decode cX10_measure 160 = .ok (.aaload, 1) := by decide +kernel
theorem dX10_measure_161 : decode cX10_measure 161 = .ok (.iload 5, 2) := by decide +kernel
theorem dX10_measure_163 : decode cX10_measure 163 = .ok (.iaload, 1) := by decide +kernel
theorem dX10_measure_164 : decode cX10_measure 164 = .ok (.aload_n 1, 1) := by decide +kernel
theorem dX10_measure_165 : decode cX10_measure 165 = .ok (.iload 4, 2) := by decide +kernel
theorem dX10_measure_167 : decode cX10_measure 167 = .ok (.aaload, 1) := by decide +kernel
theorem dX10_measure_168 : decode cX10_measure 168 = .ok (.iload_n 3, 1) := by decide +kernel
theorem dX10_measure_169 : decode cX10_measure 169 = .ok (.iaload, 1) := by decide +kernel
theorem dX10_measure_170 : decode cX10_measure 170 = .ok (.aload_n 1, 1) := by decide +kernel
theorem dX10_measure_171 : decode cX10_measure 171 = .ok (.iload_n 3, 1) := by decide +kernel
theorem dX10_measure_172 : decode cX10_measure 172 = .ok (.aaload, 1) := by decide +kernel
theorem dX10_measure_173 : decode cX10_measure 173 = .ok (.iload 5, 2) := by decide +kernel
theorem dX10_measure_175 : decode cX10_measure 175 = .ok (.iaload, 1) := by decide +kernel
theorem dX10_measure_176 : decode cX10_measure 176 = .ok (.iadd, 1) := by decide +kernel
theorem dX10_measure_177 : decode cX10_measure 177 = .ok (.invokestatic 59, 3) := by decide +kernel
theorem dX10_measure_180 : decode cX10_measure 180 = .ok (.iastore, 1) := by decide +kernel
theorem dX10_measure_181 : decode cX10_measure 181 = .ok (.iinc 5 1, 3) := by decide +kernel
theorem dX10_measure_184 : decode cX10_measure 184 = .ok (.goto (-42), 3) := by decide +kernel
theorem dX10_measure_187 : decode cX10_measure 187 = .ok (.iinc 4 1, 3) := by decide +kernel
theorem dX10_measure_190 : decode cX10_measure 190 = .ok (.goto (-60), 3) := by decide +kernel
theorem dX10_measure_193 : decode cX10_measure 193 = .ok (.iinc 3 1, 3) := by decide +kernel
theorem dX10_measure_196 : decode cX10_measure 196 = .ok (.goto (-77), 3) := by decide +kernel
theorem dX10_measure_199 : decode cX10_measure 199 = .ok (.return_, 1) := by decide +kernel
theorem dX11_init_0 : decode cX11_init 0 = .ok (.aload_n 0, 1) := by decide +kernel
theorem dX11_init_1 : decode cX11_init 1 = .ok (.invokespecial 1, 3) := by decide +kernel
theorem dX11_init_4 : decode cX11_init 4 = .ok (.aload_n 0, 1) := by decide +kernel
theorem dX11_init_5 : decode cX11_init 5 = .ok (.new 7, 3) := by decide +kernel
theorem dX11_init_8 : decode cX11_init 8 = .ok (.dup, 1) := by decide +kernel
theorem dX11_init_9 : decode cX11_init 9 = .ok (.invokespecial 9, 3) := by decide +kernel
theorem dX11_init_12 : decode cX11_init 12 = .ok (.putfield 10, 3) := by decide +kernel
theorem dX11_init_15 : decode cX11_init 15 = .ok (.aload_n 0, 1) := by decide +kernel
theorem dX11_init_16 : decode cX11_init 16 = .ok (.new 16, 3) := by decide +kernel
theorem dX11_init_19 : decode cX11_init 19 = .ok (.dup, 1) := by decide +kernel
theorem dX11_init_20 : decode cX11_init 20 = .ok (.invokespecial 18, 3) := by decide +kernel
theorem dX11_init_23 : decode cX11_init 23 = .ok (.putfield 19, 3) := by decide +kernel
theorem dX11_init_26 : decode cX11_init 26 = .ok (.aload_n 0, 1) := by decide +kernel
theorem dX11_init_27 : decode cX11_init 27 = .ok (.new 23, 3) := by decide +kernel
theorem dX11_init_30 : decode cX11_init 30 = .ok (.dup, 1) := by decide +kernel
theorem dX11_init_31 : decode cX11_init 31 = .ok (.invokespecial 25, 3) := by decide +kernel
theorem dX11_init_34 : decode cX11_init 34 = .ok (.putfield 26, 3) := by decide +kernel
theorem dX11_init_37 : decode cX11_init 37 = .ok (.aload_n 0, 1) := by decide +kernel
theorem dX11_init_38 : decode cX11_init 38 = .ok (.new 30, 3) := by decide +kernel
theorem dX11_init_41 : decode cX11_init 41 = .ok (.dup, 1) := by decide +kernel
theorem dX11_init_42 : decode cX11_init 42 = .ok (.invokespecial 32, 3) := by decide +kernel
theorem dX11_init_45 : decode cX11_init 45 = .ok (.putfield 33, 3) := by decide +kernel
theorem dX11_init_48 : decode cX11_init 48 = .ok (.aload_n 0, 1) := by decide +kernel
theorem dX11_init_49 : decode cX11_init 49 = .ok (.new 37, 3) := by decide +kernel
theorem dX11_init_52 : decode cX11_init 52 = .ok (.dup, 1) := by decide +kernel
theorem dX11_init_53 : decode cX11_init 53 = .ok (.invokespecial 39, 3) := by decide +kernel
theorem dX11_init_56 : decode cX11_init 56 = .ok (.putfield 40, 3) := by decide +kernel
theorem dX11_init_59 : decode cX11_init 59 = .ok (.aload_n 0, 1) := by decide +kernel
theorem dX11_init_60 : decode cX11_init 60 = .ok (.iconst 4, 1) := by decide +kernel
theorem dX11_init_61 : decode cX11_init 61 = .ok (.anewarray 44, 3) := by decide +kernel
theorem dX11_init_64 : decode cX11_init 64 = .ok (.putfield 46, 3) := by decide +kernel
theorem dX11_init_67 : decode cX11_init 67 = .ok (.iconst 0, 1) := by decide +kernel
theorem dX11_init_68 : decode cX11_init 68 = .ok (.istore_n 1, 1) := by decide +kernel
theorem dX11_init_69 : decode cX11_init 69 = .ok (.iload_n 1, 1) := by decide +kernel
theorem dX11_init_70 : decode cX11_init 70 = .ok (.iconst 4, 1) := by decide +kernel
theorem dX11_init_71 : decode cX11_init 71 = .ok (.if_icmp .ge 22, 3) := by decide +kernel
theorem dX11_init_74 : decode cX11_init 74 = .ok (.aload_n 0, 1) := by decide +kernel
theorem dX11_init_75 : decode cX11_init 75 = .ok (.getfield 46, 3) := by decide +kernel
theorem dX11_init_78 : decode cX11_init 78 = .ok (.iload_n 1, 1) := by decide +kernel
theorem dX11_init_79 : decode cX11_init 79 = .ok (.new 44, 3) := by decide +kernel
theorem dX11_init_82 : decode cX11_init 82 = .ok (.dup, 1) := by decide +kernel
theorem dX11_init_83 : decode cX11_init 83 = .ok (.invokespecial 50, 3) := by decide +kernel
theorem dX11_init_86 : decode cX11_init 86 = .ok (.aastore, 1) := by decide +kernel
theorem dX11_init_87 : decode cX11_init 87 = .ok (.iinc 1 1, 3) := by decide +kernel
theorem dX11_init_90 : decode cX11_init 90 = .ok (.goto (-21), 3) := by decide +kernel
theorem dX11_init_93 : decode cX11_init 93 = .ok (.return_, 1) := by decide +kernel
theorem dX11_corner_0 : decode cX11_corner 0 = .ok (.aload_n 0, 1) := by decide +kernel
theorem dX11_corner_1 : decode cX11_corner 1 = .ok (.getfield 10, 3) := by decide +kernel
theorem dX11_corner_4 : decode cX11_corner 4 = .ok (.getfield 51, 3) := by decide +kernel
theorem dX11_corner_7 : decode cX11_corner 7 = .ok (.getfield 55, 3) := by decide +kernel
theorem dX11_corner_10 : decode cX11_corner 10 = .ok (.bipush 8, 2) := by decide +kernel
theorem dX11_corner_12 : decode cX11_corner 12 = .ok (.if_icmp .lt 10, 3) := by decide +kernel
theorem dX11_corner_15 : decode cX11_corner 15 = .ok (.aload_n 0, 1) := by decide +kernel
theorem dX11_corner_16 : decode cX11_corner 16 = .ok (.ldc 61, 2) := by decide +kernel
theorem dX11_corner_18 : decode cX11_corner 18 = .ok (.invokevirtual 62, 3) := by decide +kernel
theorem dX11_corner_21 : decode cX11_corner 21 = .ok (.ireturn, 1) := by decide +kernel
theorem dX11_corner_22 : decode cX11_corner 22 = .ok (.aload_n 0, 1) := by decide +kernel
theorem dX11_corner_23 : decode cX11_corner 23 = .ok (.getfield 10, 3) := by decide +kernel
theorem dX11_corner_26 : decode cX11_corner 26 = .ok (.getfield 51, 3) := by decide +kernel
theorem dX11_corner_29 : decode cX11_corner 29 = .ok (.invokevirtual 66, 3) := by decide +kernel
theorem dX11_corner_32 : decode cX11_corner 32 = .ok (.ireturn, 1) := by decide +kernel
theorem dX11_street_0 : decode cX11_street 0 = .ok (.aload_n 0, 1) := by decide +kernel
theorem dX11_street_1 : decode cX11_street 1 = .ok (.getfield 10, 3) := by decide +kernel
theorem dX11_street_4 : decode cX11_street 4 = .ok (.getfield 51, 3) := by decide +kernel
theorem dX11_street_7 : decode cX11_street 7 = .ok (.iload_n 1, 1) := by decide +kernel
theorem dX11_street_8 : decode cX11_street 8 = .ok (.invokevirtual 70, 3) := by decide +kernel
theorem dX11_street_11 : decode cX11_street 11 = .ok (.ifCond .eq 32, 3) := by decide +kernel
theorem dX11_street_14 : decode cX11_street 14 = .ok (.aload_n 0, 1) := by decide +kernel
theorem dX11_street_15 : decode cX11_street 15 = .ok (.getfield 10, 3) := by decide +kernel
theorem dX11_street_18 : decode cX11_street 18 = .ok (.getfield 51, 3) := by decide +kernel
theorem dX11_street_21 : decode cX11_street 21 = .ok (.iload_n 2, 1) := by decide +kernel
theorem dX11_street_22 : decode cX11_street 22 = .ok (.invokevirtual 70, 3) := by decide +kernel
theorem dX11_street_25 : decode cX11_street 25 = .ok (.ifCond .eq 18, 3) := by decide +kernel
theorem dX11_street_28 : decode cX11_street 28 = .ok (.iload_n 1, 1) := by decide +kernel
theorem dX11_street_29 : decode cX11_street 29 = .ok (.iload_n 2, 1) := by decide +kernel
theorem dX11_street_30 : decode cX11_street 30 = .ok (.if_icmp .eq 13, 3) := by decide +kernel
theorem dX11_street_33 : decode cX11_street 33 = .ok (.iload_n 3, 1) := by decide +kernel
theorem dX11_street_34 : decode cX11_street 34 = .ok (.iconst 1, 1) := by decide +kernel
theorem dX11_street_35 : decode cX11_street 35 = .ok (.bipush 20, 2) := by decide +kernel
theorem dX11_street_37 : decode cX11_street 37 = .ok (.invokestatic 74, 3) := by decide +kernel
theorem dX11_street_40 : decode cX11_street 40 = .ok (.ifCond .ne 10, 3) := by decide +kernel
theorem dX11_street_43 : decode cX11_street 43 = .ok (.aload_n 0, 1) := by decide +kernel
theorem dX11_street_44 : decode cX11_street 44 = .ok (.ldc 78, 2) := by decide +kernel
theorem dX11_street_46 : decode cX11_street 46 = .ok (.invokevirtual 62, 3) := by decide +kernel
theorem dX11_street_49 : decode cX11_street 49 = .ok (.ireturn, 1) := by decide +kernel
theorem dX11_street_50 : decode cX11_street 50 = .ok (.aload_n 0, 1) := by decide +kernel
theorem dX11_street_51 : decode cX11_street 51 = .ok (.getfield 10, 3) := by decide +kernel
theorem dX11_street_54 : decode cX11_street 54 = .ok (.getfield 51, 3) := by decide +kernel
theorem dX11_street_57 : decode cX11_street 57 = .ok (.getfield 79, 3) := by decide +kernel
theorem dX11_street_60 : decode cX11_street 60 = .ok (.bipush 14, 2) := by decide +kernel
theorem dX11_street_62 : decode cX11_street 62 = .ok (.if_icmp .lt 10, 3) := by decide +kernel
theorem dX11_street_65 : decode cX11_street 65 = .ok (.aload_n 0, 1) := by decide +kernel
theorem dX11_street_66 : decode cX11_street 66 = .ok (.ldc 61, 2) := by decide +kernel
theorem dX11_street_68 : decode cX11_street 68 = .ok (.invokevirtual 62, 3) := by decide +kernel
theorem dX11_street_71 : decode cX11_street 71 = .ok (.ireturn, 1) := by decide +kernel
theorem dX11_street_72 : decode cX11_street 72 = .ok (.aload_n 0, 1) := by decide +kernel
theorem dX11_street_73 : decode cX11_street 73 = .ok (.invokevirtual 82, 3) := by decide +kernel
theorem dX11_street_76 : decode cX11_street 76 = .ok (.aload_n 0, 1) := by decide +kernel
theorem dX11_street_77 : decode cX11_street 77 = .ok (.getfield 10, 3) := by decide +kernel
theorem dX11_street_80 : decode cX11_street 80 = .ok (.getfield 51, 3) := by decide +kernel
theorem dX11_street_83 : decode cX11_street 83 = .ok (.iload_n 1, 1) := by decide +kernel
theorem dX11_street_84 : decode cX11_street 84 = .ok (.iload_n 2, 1) := by decide +kernel
theorem dX11_street_85 : decode cX11_street 85 = .ok (.iload_n 3, 1) := by decide +kernel
theorem dX11_street_86 : decode cX11_street 86 = .ok (.invokevirtual 85, 3) := by decide +kernel
theorem dX11_street_89 : decode cX11_street 89 = .ok (.ireturn, 1) := by decide +kernel
theorem dX11_shut_0 : decode cX11_shut 0 = .ok (.iload_n 1, 1) := by decide +kernel
theorem dX11_shut_1 : decode cX11_shut 1 = .ok (.iconst 0, 1) := by decide +kernel
theorem dX11_shut_2 : decode cX11_shut 2 = .ok (.aload_n 0, 1) := by decide +kernel
theorem dX11_shut_3 : decode cX11_shut 3 = .ok (.getfield 10, 3) := by decide +kernel
theorem dX11_shut_6 : decode cX11_shut 6 = .ok (.getfield 51, 3) := by decide +kernel
theorem dX11_shut_9 : decode cX11_shut 9 = .ok (.getfield 79, 3) := by decide +kernel
theorem dX11_shut_12 : decode cX11_shut 12 = .ok (.iconst 1, 1) := by decide +kernel
theorem dX11_shut_13 : decode cX11_shut 13 = .ok (.isub, 1) := by decide +kernel
theorem dX11_shut_14 : decode cX11_shut 14 = .ok (.invokestatic 74, 3) := by decide +kernel
theorem dX11_shut_17 : decode cX11_shut 17 = .ok (.ifCond .ne 10, 3) := by decide +kernel
theorem dX11_shut_20 : decode cX11_shut 20 = .ok (.aload_n 0, 1) := by decide +kernel
theorem dX11_shut_21 : decode cX11_shut 21 = .ok (.ldc 78, 2) := by decide +kernel
theorem dX11_shut_23 : decode cX11_shut 23 = .ok (.invokevirtual 62, 3) := by decide +kernel
theorem dX11_shut_26 : decode cX11_shut 26 = .ok (.ireturn, 1) := by decide +kernel
theorem dX11_shut_27 : decode cX11_shut 27 = .ok (.aload_n 0, 1) := by decide +kernel
theorem dX11_shut_28 : decode cX11_shut 28 = .ok (.getfield 10, 3) := by decide +kernel
theorem dX11_shut_31 : decode cX11_shut 31 = .ok (.getfield 51, 3) := by decide +kernel
theorem dX11_shut_34 : decode cX11_shut 34 = .ok (.iload_n 1, 1) := by decide +kernel
theorem dX11_shut_35 : decode cX11_shut 35 = .ok (.iload_n 2, 1) := by decide +kernel
theorem dX11_shut_36 : decode cX11_shut 36 = .ok (.invokevirtual 89, 3) := by decide +kernel
theorem dX11_shut_39 : decode cX11_shut 39 = .ok (.ifCond .ne 5, 3) := by decide +kernel
theorem dX11_shut_42 : decode cX11_shut 42 = .ok (.iconst 0, 1) := by decide +kernel
theorem dX11_shut_43 : decode cX11_shut 43 = .ok (.ireturn, 1) := by decide +kernel
theorem dX11_shut_44 : decode cX11_shut 44 = .ok (.aload_n 0, 1) := by decide +kernel
theorem dX11_shut_45 : decode cX11_shut 45 = .ok (.invokevirtual 82, 3) := by decide +kernel
theorem dX11_shut_48 : decode cX11_shut 48 = .ok (.iconst 1, 1) := by decide +kernel
theorem dX11_shut_49 : decode cX11_shut 49 = .ok (.ireturn, 1) := by decide +kernel
theorem dX11_far_0 : decode cX11_far 0 = .ok (.aload_n 0, 1) := by decide +kernel
theorem dX11_far_1 : decode cX11_far 1 = .ok (.getfield 10, 3) := by decide +kernel
theorem dX11_far_4 : decode cX11_far 4 = .ok (.getfield 51, 3) := by decide +kernel
theorem dX11_far_7 : decode cX11_far 7 = .ok (.iload_n 1, 1) := by decide +kernel
theorem dX11_far_8 : decode cX11_far 8 = .ok (.invokevirtual 70, 3) := by decide +kernel
theorem dX11_far_11 : decode cX11_far 11 = .ok (.ifCond .eq 17, 3) := by decide +kernel
theorem dX11_far_14 : decode cX11_far 14 = .ok (.aload_n 0, 1) := by decide +kernel
theorem dX11_far_15 : decode cX11_far 15 = .ok (.getfield 10, 3) := by decide +kernel
theorem dX11_far_18 : decode cX11_far 18 = .ok (.getfield 51, 3) := by decide +kernel
theorem dX11_far_21 : decode cX11_far 21 = .ok (.iload_n 2, 1) := by decide +kernel
theorem dX11_far_22 : decode cX11_far 22 = .ok (.invokevirtual 70, 3) := by decide +kernel
theorem dX11_far_25 : decode cX11_far 25 = .ok (.ifCond .ne 10, 3) := by decide +kernel
theorem dX11_far_28 : decode cX11_far 28 = .ok (.aload_n 0, 1) := by decide +kernel
theorem dX11_far_29 : decode cX11_far 29 = .ok (.ldc 78, 2) := by decide +kernel
theorem dX11_far_31 : decode cX11_far 31 = .ok (.invokevirtual 62, 3) := by decide +kernel
theorem dX11_far_34 : decode cX11_far 34 = .ok (.ireturn, 1) := by decide +kernel
theorem dX11_far_35 : decode cX11_far 35 = .ok (.aload_n 0, 1) := by decide +kernel
theorem dX11_far_36 : decode cX11_far 36 = .ok (.getfield 10, 3) := by decide +kernel
theorem dX11_far_39 : decode cX11_far 39 = .ok (.getfield 51, 3) := by decide +kernel
theorem dX11_far_42 : decode cX11_far 42 = .ok (.invokevirtual 93, 3) := by decide +kernel
theorem dX11_far_45 : decode cX11_far 45 = .ok (.iload_n 1, 1) := by decide +kernel
theorem dX11_far_46 : decode cX11_far 46 = .ok (.aaload, 1) := by decide +kernel
theorem dX11_far_47 : decode cX11_far 47 = .ok (.iload_n 2, 1) := by decide +kernel
theorem dX11_far_48 : decode cX11_far 48 = .ok (.iaload, 1) := by decide +kernel
theorem dX11_far_49 : decode cX11_far 49 = .ok (.istore_n 3, 1) := by decide +kernel
theorem dX11_far_50 : decode cX11_far 50 = .ok (.iload_n 3, 1) := by decide +kernel
theorem dX11_far_51 : decode cX11_far 51 = .ok (.ldc 97, 2) := by decide +kernel
theorem dX11_far_53 : decode cX11_far 53 = .ok (.if_icmp .lt 12, 3) := by decide +kernel
theorem dX11_far_56 : decode cX11_far 56 = .ok (.aload_n 0, 1) := by decide +kernel
theorem dX11_far_57 : decode cX11_far 57 = .ok (.ldc 98, 2) := by decide +kernel
theorem dX11_far_59 : decode cX11_far 59 = .ok (.invokevirtual 62, 3) := by decide +kernel
theorem dX11_far_62 : decode cX11_far 62 = .ok (.goto 4, 3) := by decide +kernel
theorem dX11_far_65 : decode cX11_far 65 = .ok (.iload_n 3, 1) := by decide +kernel
theorem dX11_far_66 : decode cX11_far 66 = .ok (.ireturn, 1) := by decide +kernel
theorem dX11_school_0 : decode cX11_school 0 = .ok (.iload_n 1, 1) := by decide +kernel
theorem dX11_school_1 : decode cX11_school 1 = .ok (.iconst 0, 1) := by decide +kernel
theorem dX11_school_2 : decode cX11_school 2 = .ok (.iconst 3, 1) := by decide +kernel
theorem dX11_school_3 : decode cX11_school 3 = .ok (.invokestatic 74, 3) := by decide +kernel
theorem dX11_school_6 : decode cX11_school 6 = .ok (.ifCond .eq 17, 3) := by decide +kernel
theorem dX11_school_9 : decode cX11_school 9 = .ok (.aload_n 0, 1) := by decide +kernel
theorem dX11_school_10 : decode cX11_school 10 = .ok (.getfield 10, 3) := by decide +kernel
theorem dX11_school_13 : decode cX11_school 13 = .ok (.getfield 51, 3) := by decide +kernel
theorem dX11_school_16 : decode cX11_school 16 = .ok (.iload_n 2, 1) := by decide +kernel
theorem dX11_school_17 : decode cX11_school 17 = .ok (.invokevirtual 70, 3) := by decide +kernel
theorem dX11_school_20 : decode cX11_school 20 = .ok (.ifCond .ne 10, 3) := by decide +kernel
theorem dX11_school_23 : decode cX11_school 23 = .ok (.aload_n 0, 1) := by decide +kernel
theorem dX11_school_24 : decode cX11_school 24 = .ok (.ldc 78, 2) := by decide +kernel
theorem dX11_school_26 : decode cX11_school 26 = .ok (.invokevirtual 62, 3) := by decide +kernel
theorem dX11_school_29 : decode cX11_school 29 = .ok (.ireturn, 1) := by decide +kernel
theorem dX11_school_30 : decode cX11_school 30 = .ok (.aload_n 0, 1) := by decide +kernel
theorem dX11_school_31 : decode cX11_school 31 = .ok (.getfield 10, 3) := by decide +kernel
theorem dX11_school_34 : decode cX11_school 34 = .ok (.getfield 99, 3) := by decide +kernel
theorem dX11_school_37 : decode cX11_school 37 = .ok (.iconst 4, 1) := by decide +kernel
theorem dX11_school_38 : decode cX11_school 38 = .ok (.if_icmp .lt 10, 3) := by decide +kernel
theorem dX11_school_41 : decode cX11_school 41 = .ok (.aload_n 0, 1) := by decide +kernel
theorem dX11_school_42 : decode cX11_school 42 = .ok (.ldc 61, 2) := by decide +kernel
theorem dX11_school_44 : decode cX11_school 44 = .ok (.invokevirtual 62, 3) := by decide +kernel
theorem dX11_school_47 : decode cX11_school 47 = .ok (.ireturn, 1) := by decide +kernel
theorem dX11_school_48 : decode cX11_school 48 = .ok (.aload_n 0, 1) := by decide +kernel
theorem dX11_school_49 : decode cX11_school 49 = .ok (.invokevirtual 82, 3) := by decide +kernel
theorem dX11_school_52 : decode cX11_school 52 = .ok (.aload_n 0, 1) := by decide +kernel
theorem dX11_school_53 : decode cX11_school 53 = .ok (.getfield 10, 3) := by decide +kernel
theorem dX11_school_56 : decode cX11_school 56 = .ok (.iload_n 1, 1) := by decide +kernel
theorem dX11_school_57 : decode cX11_school 57 = .ok (.iload_n 2, 1) := by decide +kernel
theorem dX11_school_58 : decode cX11_school 58 = .ok (.invokevirtual 102, 3) := by decide +kernel
theorem dX11_school_61 : decode cX11_school 61 = .ok (.ireturn, 1) := by decide +kernel
theorem dX11_as_0 : decode cX11_as 0 = .ok (.aload_n 0, 1) := by decide +kernel
theorem dX11_as_1 : decode cX11_as 1 = .ok (.getfield 10, 3) := by decide +kernel
theorem dX11_as_4 : decode cX11_as 4 = .ok (.iload_n 1, 1) := by decide +kernel
theorem dX11_as_5 : decode cX11_as 5 = .ok (.invokevirtual 106, 3) := by decide +kernel
theorem dX11_as_8 : decode cX11_as 8 = .ok (.ifCond .eq 12, 3) := by decide +kernel
theorem dX11_as_11 : decode cX11_as 11 = .ok (.iload_n 2, 1) := by decide +kernel
theorem dX11_as_12 : decode cX11_as 12 = .ok (.iconst 0, 1) := by decide +kernel
theorem dX11_as_13 : decode cX11_as 13 = .ok (.iconst 3, 1) := by decide +kernel
theorem dX11_as_14 : decode cX11_as 14 = .ok (.invokestatic 74, 3) := by decide +kernel
theorem dX11_as_17 : decode cX11_as 17 = .ok (.ifCond .ne 10, 3) := by decide +kernel
theorem dX11_as_20 : decode cX11_as 20 = .ok (.aload_n 0, 1) := by decide +kernel
theorem dX11_as_21 : decode cX11_as 21 = .ok (.ldc 78, 2) := by decide +kernel
theorem dX11_as_23 : decode cX11_as 23 = .ok (.invokevirtual 62, 3) := by decide +kernel
theorem dX11_as_26 : decode cX11_as 26 = .ok (.ireturn, 1) := by decide +kernel
theorem dX11_as_27 : decode cX11_as 27 = .ok (.aload_n 0, 1) := by decide +kernel
theorem dX11_as_28 : decode cX11_as 28 = .ok (.getfield 10, 3) := by decide +kernel
theorem dX11_as_31 : decode cX11_as 31 = .ok (.getfield 109, 3) := by decide +kernel
theorem dX11_as_34 : decode cX11_as 34 = .ok (.iload_n 1, 1) := by decide +kernel
theorem dX11_as_35 : decode cX11_as 35 = .ok (.aaload, 1) := by decide +kernel
theorem dX11_as_36 : decode cX11_as 36 = .ok (.getfield 113, 3) := by decide +kernel
theorem dX11_as_39 : decode cX11_as 39 = .ok (.iload_n 2, 1) := by decide +kernel
theorem dX11_as_40 : decode cX11_as 40 = .ok (.invokestatic 118, 3) := by decide +kernel
theorem dX11_as_43 : decode cX11_as 43 = .ok (.ifCond .eq 7, 3) := by decide +kernel
theorem dX11_as_46 : decode cX11_as 46 = .ok (.iload_n 1, 1) := by decide +kernel
theorem dX11_as_47 : decode cX11_as 47 = .ok (.goto 9, 3) := by decide +kernel
theorem dX11_as_50 : decode cX11_as 50 = .ok (.aload_n 0, 1) := by decide +kernel
theorem dX11_as_51 : decode cX11_as 51 = .ok (.ldc 122, 2) := by decide +kernel
theorem dX11_as_53 : decode cX11_as 53 = .ok (.invokevirtual 62, 3) := by decide +kernel
theorem dX11_as_56 : decode cX11_as 56 = .ok (.ireturn, 1) := by decide +kernel
theorem dX11_of_0 : decode cX11_of 0 = .ok (.aload_n 0, 1) := by decide +kernel
theorem dX11_of_1 : decode cX11_of 1 = .ok (.getfield 10, 3) := by decide +kernel
theorem dX11_of_4 : decode cX11_of 4 = .ok (.iload_n 1, 1) := by decide +kernel
theorem dX11_of_5 : decode cX11_of 5 = .ok (.invokevirtual 106, 3) := by decide +kernel
theorem dX11_of_8 : decode cX11_of 8 = .ok (.ifCond .ne 10, 3) := by decide +kernel
theorem dX11_of_11 : decode cX11_of 11 = .ok (.aload_n 0, 1) := by decide +kernel
theorem dX11_of_12 : decode cX11_of 12 = .ok (.ldc 78, 2) := by decide +kernel
theorem dX11_of_14 : decode cX11_of 14 = .ok (.invokevirtual 62, 3) := by decide +kernel
theorem dX11_of_17 : decode cX11_of 17 = .ok (.ireturn, 1) := by decide +kernel
theorem dX11_of_18 : decode cX11_of 18 = .ok (.iload_n 2, 1) := by decide +kernel
theorem dX11_of_19 : decode cX11_of 19 = .ok (.tableswitch 117 0 6 #[41, 54, 67, 77, 90, 99, 108], 41) := by decide +kernel
theorem dX11_of_60 : decode cX11_of 60 = .ok (.aload_n 0, 1) := by decide +kernel
theorem dX11_of_61 : decode cX11_of 61 = .ok (.getfield 10, 3) := by decide +kernel
theorem dX11_of_64 : decode cX11_of 64 = .ok (.getfield 109, 3) := by decide +kernel
theorem dX11_of_67 : decode cX11_of 67 = .ok (.iload_n 1, 1) := by decide +kernel
theorem dX11_of_68 : decode cX11_of 68 = .ok (.aaload, 1) := by decide +kernel
theorem dX11_of_69 : decode cX11_of 69 = .ok (.getfield 113, 3) := by decide +kernel
theorem dX11_of_72 : decode cX11_of 72 = .ok (.ireturn, 1) := by decide +kernel
theorem dX11_of_73 : decode cX11_of 73 = .ok (.aload_n 0, 1) := by decide +kernel
theorem dX11_of_74 : decode cX11_of 74 = .ok (.getfield 10, 3) := by decide +kernel
theorem dX11_of_77 : decode cX11_of 77 = .ok (.getfield 109, 3) := by decide +kernel
theorem dX11_of_80 : decode cX11_of 80 = .ok (.iload_n 1, 1) := by decide +kernel
theorem dX11_of_81 : decode cX11_of 81 = .ok (.aaload, 1) := by decide +kernel
theorem dX11_of_82 : decode cX11_of 82 = .ok (.getfield 123, 3) := by decide +kernel
theorem dX11_of_85 : decode cX11_of 85 = .ok (.ireturn, 1) := by decide +kernel
theorem dX11_of_86 : decode cX11_of 86 = .ok (.aload_n 0, 1) := by decide +kernel
theorem dX11_of_87 : decode cX11_of 87 = .ok (.getfield 10, 3) := by decide +kernel
theorem dX11_of_90 : decode cX11_of 90 = .ok (.getfield 126, 3) := by decide +kernel
theorem dX11_of_93 : decode cX11_of 93 = .ok (.iload_n 1, 1) := by decide +kernel
theorem dX11_of_94 : decode cX11_of 94 = .ok (.iaload, 1) := by decide +kernel
theorem dX11_of_95 : decode cX11_of 95 = .ok (.ireturn, 1) := by decide +kernel
theorem dX11_of_96 : decode cX11_of 96 = .ok (.aload_n 0, 1) := by decide +kernel
theorem dX11_of_97 : decode cX11_of 97 = .ok (.getfield 10, 3) := by decide +kernel
theorem dX11_of_100 : decode cX11_of 100 = .ok (.getfield 109, 3) := by decide +kernel
theorem dX11_of_103 : decode cX11_of 103 = .ok (.iload_n 1, 1) := by decide +kernel
theorem dX11_of_104 : decode cX11_of 104 = .ok (.aaload, 1) := by decide +kernel
theorem dX11_of_105 : decode cX11_of 105 = .ok (.getfield 130, 3) := by decide +kernel
theorem dX11_of_108 : decode cX11_of 108 = .ok (.ireturn, 1) := by decide +kernel
theorem dX11_of_109 : decode cX11_of 109 = .ok (.aload_n 0, 1) := by decide +kernel
theorem dX11_of_110 : decode cX11_of 110 = .ok (.getfield 10, 3) := by decide +kernel
theorem dX11_of_113 : decode cX11_of 113 = .ok (.iload_n 1, 1) := by decide +kernel
theorem dX11_of_114 : decode cX11_of 114 = .ok (.invokevirtual 133, 3) := by decide +kernel
theorem dX11_of_117 : decode cX11_of 117 = .ok (.ireturn, 1) := by decide +kernel
theorem dX11_of_118 : decode cX11_of 118 = .ok (.aload_n 0, 1) := by decide +kernel
theorem dX11_of_119 : decode cX11_of 119 = .ok (.getfield 10, 3) := by decide +kernel
theorem dX11_of_122 : decode cX11_of 122 = .ok (.iload_n 1, 1) := by decide +kernel
theorem dX11_of_123 : decode cX11_of 123 = .ok (.invokevirtual 136, 3) := by decide +kernel
theorem dX11_of_126 : decode cX11_of 126 = .ok (.ireturn, 1) := by decide +kernel
theorem dX11_of_127 : decode cX11_of 127 = .ok (.aload_n 0, 1) := by decide +kernel
theorem dX11_of_128 : decode cX11_of 128 = .ok (.getfield 10, 3) := by decide +kernel
theorem dX11_of_131 : decode cX11_of 131 = .ok (.iload_n 1, 1) := by decide +kernel
theorem dX11_of_132 : decode cX11_of 132 = .ok (.invokevirtual 139, 3) := by decide +kernel
theorem dX11_of_135 : decode cX11_of 135 = .ok (.ireturn, 1) := by decide +kernel
theorem dX11_of_136 : decode cX11_of 136 = .ok (.aload_n 0, 1) := by decide +kernel
theorem dX11_of_137 : decode cX11_of 137 = .ok (.ldc 78, 2) := by decide +kernel
theorem dX11_of_139 : decode cX11_of 139 = .ok (.invokevirtual 62, 3) := by decide +kernel
theorem dX11_of_142 : decode cX11_of 142 = .ok (.ireturn, 1) := by decide +kernel
theorem dX11_bell_0 : decode cX11_bell 0 = .ok (.aload_n 0, 1) := by decide +kernel
theorem dX11_bell_1 : decode cX11_bell 1 = .ok (.getfield 10, 3) := by decide +kernel
theorem dX11_bell_4 : decode cX11_bell 4 = .ok (.iload_n 1, 1) := by decide +kernel
theorem dX11_bell_5 : decode cX11_bell 5 = .ok (.invokevirtual 106, 3) := by decide +kernel
theorem dX11_bell_8 : decode cX11_bell 8 = .ok (.ifCond .eq 13, 3) := by decide +kernel
theorem dX11_bell_11 : decode cX11_bell 11 = .ok (.iload_n 2, 1) := by decide +kernel
theorem dX11_bell_12 : decode cX11_bell 12 = .ok (.iconst 0, 1) := by decide +kernel
theorem dX11_bell_13 : decode cX11_bell 13 = .ok (.bipush 6, 2) := by decide +kernel
theorem dX11_bell_15 : decode cX11_bell 15 = .ok (.invokestatic 74, 3) := by decide +kernel
theorem dX11_bell_18 : decode cX11_bell 18 = .ok (.ifCond .ne 10, 3) := by decide +kernel
theorem dX11_bell_21 : decode cX11_bell 21 = .ok (.aload_n 0, 1) := by decide +kernel
theorem dX11_bell_22 : decode cX11_bell 22 = .ok (.ldc 78, 2) := by decide +kernel
theorem dX11_bell_24 : decode cX11_bell 24 = .ok (.invokevirtual 62, 3) := by decide +kernel
theorem dX11_bell_27 : decode cX11_bell 27 = .ok (.ireturn, 1) := by decide +kernel
theorem dX11_bell_28 : decode cX11_bell 28 = .ok (.aload_n 0, 1) := by decide +kernel
theorem dX11_bell_29 : decode cX11_bell 29 = .ok (.getfield 10, 3) := by decide +kernel
theorem dX11_bell_32 : decode cX11_bell 32 = .ok (.getfield 126, 3) := by decide +kernel
theorem dX11_bell_35 : decode cX11_bell 35 = .ok (.iload_n 1, 1) := by decide +kernel
theorem dX11_bell_36 : decode cX11_bell 36 = .ok (.iaload, 1) := by decide +kernel
theorem dX11_bell_37 : decode cX11_bell 37 = .ok (.istore_n 3, 1) := by decide +kernel
theorem dX11_bell_38 : decode cX11_bell 38 = .ok (.aload_n 0, 1) := by decide +kernel
theorem dX11_bell_39 : decode cX11_bell 39 = .ok (.getfield 10, 3) := by decide +kernel
theorem dX11_bell_42 : decode cX11_bell 42 = .ok (.getfield 126, 3) := by decide +kernel
theorem dX11_bell_45 : decode cX11_bell 45 = .ok (.iload_n 1, 1) := by decide +kernel
theorem dX11_bell_46 : decode cX11_bell 46 = .ok (.iload_n 2, 1) := by decide +kernel
theorem dX11_bell_47 : decode cX11_bell 47 = .ok (.iastore, 1) := by decide +kernel
theorem dX11_bell_48 : decode cX11_bell 48 = .ok (.aload_n 0, 1) := by decide +kernel
theorem dX11_bell_49 : decode cX11_bell 49 = .ok (.iconst 0, 1) := by decide +kernel
theorem dX11_bell_50 : decode cX11_bell 50 = .ok (.putfield 142, 3) := by decide +kernel
theorem dX11_bell_53 : decode cX11_bell 53 = .ok (.iload_n 3, 1) := by decide +kernel
theorem dX11_bell_54 : decode cX11_bell 54 = .ok (.ireturn, 1) := by decide +kernel
theorem dX11_wish_0 : decode cX11_wish 0 = .ok (.aload_n 0, 1) := by decide +kernel
theorem dX11_wish_1 : decode cX11_wish 1 = .ok (.getfield 10, 3) := by decide +kernel
theorem dX11_wish_4 : decode cX11_wish 4 = .ok (.iload_n 1, 1) := by decide +kernel
theorem dX11_wish_5 : decode cX11_wish 5 = .ok (.invokevirtual 106, 3) := by decide +kernel
theorem dX11_wish_8 : decode cX11_wish 8 = .ok (.ifCond .eq 13, 3) := by decide +kernel
theorem dX11_wish_11 : decode cX11_wish 11 = .ok (.iload_n 2, 1) := by decide +kernel
theorem dX11_wish_12 : decode cX11_wish 12 = .ok (.iconst 0, 1) := by decide +kernel
theorem dX11_wish_13 : decode cX11_wish 13 = .ok (.bipush 6, 2) := by decide +kernel
theorem dX11_wish_15 : decode cX11_wish 15 = .ok (.invokestatic 74, 3) := by decide +kernel
theorem dX11_wish_18 : decode cX11_wish 18 = .ok (.ifCond .ne 10, 3) := by decide +kernel
theorem dX11_wish_21 : decode cX11_wish 21 = .ok (.aload_n 0, 1) := by decide +kernel
theorem dX11_wish_22 : decode cX11_wish 22 = .ok (.ldc 78, 2) := by decide +kernel
theorem dX11_wish_24 : decode cX11_wish 24 = .ok (.invokevirtual 62, 3) := by decide +kernel
theorem dX11_wish_27 : decode cX11_wish 27 = .ok (.ireturn, 1) := by decide +kernel
theorem dX11_wish_28 : decode cX11_wish 28 = .ok (.aload_n 0, 1) := by decide +kernel
theorem dX11_wish_29 : decode cX11_wish 29 = .ok (.getfield 10, 3) := by decide +kernel
theorem dX11_wish_32 : decode cX11_wish 32 = .ok (.getfield 109, 3) := by decide +kernel
theorem dX11_wish_35 : decode cX11_wish 35 = .ok (.iload_n 1, 1) := by decide +kernel
theorem dX11_wish_36 : decode cX11_wish 36 = .ok (.aaload, 1) := by decide +kernel
theorem dX11_wish_37 : decode cX11_wish 37 = .ok (.getfield 130, 3) := by decide +kernel
theorem dX11_wish_40 : decode cX11_wish 40 = .ok (.istore_n 3, 1) := by decide +kernel
theorem dX11_wish_41 : decode cX11_wish 41 = .ok (.aload_n 0, 1) := by decide +kernel
theorem dX11_wish_42 : decode cX11_wish 42 = .ok (.getfield 10, 3) := by decide +kernel
theorem dX11_wish_45 : decode cX11_wish 45 = .ok (.getfield 109, 3) := by decide +kernel
theorem dX11_wish_48 : decode cX11_wish 48 = .ok (.iload_n 1, 1) := by decide +kernel
theorem dX11_wish_49 : decode cX11_wish 49 = .ok (.aaload, 1) := by decide +kernel
theorem dX11_wish_50 : decode cX11_wish 50 = .ok (.iload_n 2, 1) := by decide +kernel
theorem dX11_wish_51 : decode cX11_wish 51 = .ok (.putfield 130, 3) := by decide +kernel
theorem dX11_wish_54 : decode cX11_wish 54 = .ok (.aload_n 0, 1) := by decide +kernel
theorem dX11_wish_55 : decode cX11_wish 55 = .ok (.iconst 0, 1) := by decide +kernel
theorem dX11_wish_56 : decode cX11_wish 56 = .ok (.putfield 146, 3) := by decide +kernel
theorem dX11_wish_59 : decode cX11_wish 59 = .ok (.iload_n 3, 1) := by decide +kernel
theorem dX11_wish_60 : decode cX11_wish 60 = .ok (.ireturn, 1) := by decide +kernel
theorem dX11_stop_0 : decode cX11_stop 0 = .ok (.aload_n 0, 1) := by decide +kernel
theorem dX11_stop_1 : decode cX11_stop 1 = .ok (.getfield 10, 3) := by decide +kernel
theorem dX11_stop_4 : decode cX11_stop 4 = .ok (.iload_n 1, 1) := by decide +kernel
theorem dX11_stop_5 : decode cX11_stop 5 = .ok (.invokevirtual 106, 3) := by decide +kernel
theorem dX11_stop_8 : decode cX11_stop 8 = .ok (.ifCond .eq 37, 3) := by decide +kernel
theorem dX11_stop_11 : decode cX11_stop 11 = .ok (.aload_n 0, 1) := by decide +kernel
theorem dX11_stop_12 : decode cX11_stop 12 = .ok (.getfield 10, 3) := by decide +kernel
theorem dX11_stop_15 : decode cX11_stop 15 = .ok (.getfield 51, 3) := by decide +kernel
theorem dX11_stop_18 : decode cX11_stop 18 = .ok (.iload_n 2, 1) := by decide +kernel
theorem dX11_stop_19 : decode cX11_stop 19 = .ok (.invokevirtual 70, 3) := by decide +kernel
theorem dX11_stop_22 : decode cX11_stop 22 = .ok (.ifCond .eq 23, 3) := by decide +kernel
theorem dX11_stop_25 : decode cX11_stop 25 = .ok (.iload_n 3, 1) := by decide +kernel
theorem dX11_stop_26 : decode cX11_stop 26 = .ok (.iconst 1, 1) := by decide +kernel
theorem dX11_stop_27 : decode cX11_stop 27 = .ok (.bipush 30, 2) := by decide +kernel
theorem dX11_stop_29 : decode cX11_stop 29 = .ok (.invokestatic 74, 3) := by decide +kernel
theorem dX11_stop_32 : decode cX11_stop 32 = .ok (.ifCond .eq 13, 3) := by decide +kernel
theorem dX11_stop_35 : decode cX11_stop 35 = .ok (.iload 4, 2) := by decide +kernel
theorem dX11_stop_37 : decode cX11_stop 37 = .ok (.iconst 0, 1) := by decide +kernel
theorem dX11_stop_38 : decode cX11_stop 38 = .ok (.iconst 3, 1) := by decide +kernel
theorem dX11_stop_39 : decode cX11_stop 39 = .ok (.invokestatic 74, 3) := by decide +kernel
theorem dX11_stop_42 : decode cX11_stop 42 = .ok (.ifCond .ne 10, 3) := by decide +kernel
theorem dX11_stop_45 : decode cX11_stop 45 = .ok (.aload_n 0, 1) := by decide +kernel
theorem dX11_stop_46 : decode cX11_stop 46 = .ok (.ldc 78, 2) := by decide +kernel
theorem dX11_stop_48 : decode cX11_stop 48 = .ok (.invokevirtual 62, 3) := by decide +kernel
theorem dX11_stop_51 : decode cX11_stop 51 = .ok (.ireturn, 1) := by decide +kernel
theorem dX11_stop_52 : decode cX11_stop 52 = .ok (.aload_n 0, 1) := by decide +kernel
theorem dX11_stop_53 : decode cX11_stop 53 = .ok (.getfield 10, 3) := by decide +kernel
theorem dX11_stop_56 : decode cX11_stop 56 = .ok (.getfield 149, 3) := by decide +kernel
theorem dX11_stop_59 : decode cX11_stop 59 = .ok (.bipush 10, 2) := by decide +kernel
theorem dX11_stop_61 : decode cX11_stop 61 = .ok (.if_icmp .lt 10, 3) := by decide +kernel
theorem dX11_stop_64 : decode cX11_stop 64 = .ok (.aload_n 0, 1) := by decide +kernel
theorem dX11_stop_65 : decode cX11_stop 65 = .ok (.ldc 61, 2) := by decide +kernel
theorem dX11_stop_67 : decode cX11_stop 67 = .ok (.invokevirtual 62, 3) := by decide +kernel
theorem dX11_stop_70 : decode cX11_stop 70 = .ok (.ireturn, 1) := by decide +kernel
theorem dX11_stop_71 : decode cX11_stop 71 = .ok (.aload_n 0, 1) := by decide +kernel
theorem dX11_stop_72 : decode cX11_stop 72 = .ok (.invokevirtual 82, 3) := by decide +kernel
theorem dX11_stop_75 : decode cX11_stop 75 = .ok (.aload_n 0, 1) := by decide +kernel
theorem dX11_stop_76 : decode cX11_stop 76 = .ok (.getfield 10, 3) := by decide +kernel
theorem dX11_stop_79 : decode cX11_stop 79 = .ok (.iload_n 1, 1) := by decide +kernel
theorem dX11_stop_80 : decode cX11_stop 80 = .ok (.iload_n 2, 1) := by decide +kernel
theorem dX11_stop_81 : decode cX11_stop 81 = .ok (.iload_n 3, 1) := by decide +kernel
theorem dX11_stop_82 : decode cX11_stop 82 = .ok (.iload 4, 2) := by decide +kernel
theorem dX11_stop_84 : decode cX11_stop 84 = .ok (.invokevirtual 152, 3) := by decide +kernel
theorem dX11_stop_87 : decode cX11_stop 87 = .ok (.ireturn, 1) := by decide +kernel
theorem dX11_pupils_0 : decode cX11_pupils 0 = .ok (.aload_n 0, 1) := by decide +kernel
theorem dX11_pupils_1 : decode cX11_pupils 1 = .ok (.getfield 10, 3) := by decide +kernel
theorem dX11_pupils_4 : decode cX11_pupils 4 = .ok (.iload_n 1, 1) := by decide +kernel
theorem dX11_pupils_5 : decode cX11_pupils 5 = .ok (.invokevirtual 156, 3) := by decide +kernel
theorem dX11_pupils_8 : decode cX11_pupils 8 = .ok (.ifCond .eq 13, 3) := by decide +kernel
theorem dX11_pupils_11 : decode cX11_pupils 11 = .ok (.iload_n 2, 1) := by decide +kernel
theorem dX11_pupils_12 : decode cX11_pupils 12 = .ok (.iconst 1, 1) := by decide +kernel
theorem dX11_pupils_13 : decode cX11_pupils 13 = .ok (.bipush 30, 2) := by decide +kernel
theorem dX11_pupils_15 : decode cX11_pupils 15 = .ok (.invokestatic 74, 3) := by decide +kernel
theorem dX11_pupils_18 : decode cX11_pupils 18 = .ok (.ifCond .ne 10, 3) := by decide +kernel
theorem dX11_pupils_21 : decode cX11_pupils 21 = .ok (.aload_n 0, 1) := by decide +kernel
theorem dX11_pupils_22 : decode cX11_pupils 22 = .ok (.ldc 78, 2) := by decide +kernel
theorem dX11_pupils_24 : decode cX11_pupils 24 = .ok (.invokevirtual 62, 3) := by decide +kernel
theorem dX11_pupils_27 : decode cX11_pupils 27 = .ok (.ireturn, 1) := by decide +kernel
theorem dX11_pupils_28 : decode cX11_pupils 28 = .ok (.aload_n 0, 1) := by decide +kernel
theorem dX11_pupils_29 : decode cX11_pupils 29 = .ok (.getfield 10, 3) := by decide +kernel
theorem dX11_pupils_32 : decode cX11_pupils 32 = .ok (.getfield 159, 3) := by decide +kernel
theorem dX11_pupils_35 : decode cX11_pupils 35 = .ok (.iload_n 1, 1) := by decide +kernel
theorem dX11_pupils_36 : decode cX11_pupils 36 = .ok (.aaload, 1) := by decide +kernel
theorem dX11_pupils_37 : decode cX11_pupils 37 = .ok (.getfield 163, 3) := by decide +kernel
theorem dX11_pupils_40 : decode cX11_pupils 40 = .ok (.istore_n 3, 1) := by decide +kernel
theorem dX11_pupils_41 : decode cX11_pupils 41 = .ok (.aload_n 0, 1) := by decide +kernel
theorem dX11_pupils_42 : decode cX11_pupils 42 = .ok (.getfield 10, 3) := by decide +kernel
theorem dX11_pupils_45 : decode cX11_pupils 45 = .ok (.getfield 159, 3) := by decide +kernel
theorem dX11_pupils_48 : decode cX11_pupils 48 = .ok (.iload_n 1, 1) := by decide +kernel
theorem dX11_pupils_49 : decode cX11_pupils 49 = .ok (.aaload, 1) := by decide +kernel
theorem dX11_pupils_50 : decode cX11_pupils 50 = .ok (.iload_n 2, 1) := by decide +kernel
theorem dX11_pupils_51 : decode cX11_pupils 51 = .ok (.putfield 163, 3) := by decide +kernel
theorem dX11_pupils_54 : decode cX11_pupils 54 = .ok (.aload_n 0, 1) := by decide +kernel
theorem dX11_pupils_55 : decode cX11_pupils 55 = .ok (.invokevirtual 82, 3) := by decide +kernel
theorem dX11_pupils_58 : decode cX11_pupils 58 = .ok (.iload_n 3, 1) := by decide +kernel
theorem dX11_pupils_59 : decode cX11_pupils 59 = .ok (.ireturn, 1) := by decide +kernel
theorem dX11_gone_0 : decode cX11_gone 0 = .ok (.aload_n 0, 1) := by decide +kernel
theorem dX11_gone_1 : decode cX11_gone 1 = .ok (.getfield 10, 3) := by decide +kernel
theorem dX11_gone_4 : decode cX11_gone 4 = .ok (.iload_n 1, 1) := by decide +kernel
theorem dX11_gone_5 : decode cX11_gone 5 = .ok (.invokevirtual 156, 3) := by decide +kernel
theorem dX11_gone_8 : decode cX11_gone 8 = .ok (.ifCond .ne 10, 3) := by decide +kernel
theorem dX11_gone_11 : decode cX11_gone 11 = .ok (.aload_n 0, 1) := by decide +kernel
theorem dX11_gone_12 : decode cX11_gone 12 = .ok (.ldc 78, 2) := by decide +kernel
theorem dX11_gone_14 : decode cX11_gone 14 = .ok (.invokevirtual 62, 3) := by decide +kernel
theorem dX11_gone_17 : decode cX11_gone 17 = .ok (.ireturn, 1) := by decide +kernel
theorem dX11_gone_18 : decode cX11_gone 18 = .ok (.aload_n 0, 1) := by decide +kernel
theorem dX11_gone_19 : decode cX11_gone 19 = .ok (.invokevirtual 82, 3) := by decide +kernel
theorem dX11_gone_22 : decode cX11_gone 22 = .ok (.aload_n 0, 1) := by decide +kernel
theorem dX11_gone_23 : decode cX11_gone 23 = .ok (.getfield 10, 3) := by decide +kernel
theorem dX11_gone_26 : decode cX11_gone 26 = .ok (.iload_n 1, 1) := by decide +kernel
theorem dX11_gone_27 : decode cX11_gone 27 = .ok (.invokevirtual 168, 3) := by decide +kernel
theorem dX11_gone_30 : decode cX11_gone 30 = .ok (.aload_n 0, 1) := by decide +kernel
theorem dX11_gone_31 : decode cX11_gone 31 = .ok (.getfield 10, 3) := by decide +kernel
theorem dX11_gone_34 : decode cX11_gone 34 = .ok (.getfield 149, 3) := by decide +kernel
theorem dX11_gone_37 : decode cX11_gone 37 = .ok (.ireturn, 1) := by decide +kernel
theorem dX11_terms_0 : decode cX11_terms 0 = .ok (.iload_n 1, 1) := by decide +kernel
theorem dX11_terms_1 : decode cX11_terms 1 = .ok (.iconst 1, 1) := by decide +kernel
theorem dX11_terms_2 : decode cX11_terms 2 = .ok (.bipush 60, 2) := by decide +kernel
theorem dX11_terms_4 : decode cX11_terms 4 = .ok (.invokestatic 74, 3) := by decide +kernel
theorem dX11_terms_7 : decode cX11_terms 7 = .ok (.ifCond .eq 23, 3) := by decide +kernel
theorem dX11_terms_10 : decode cX11_terms 10 = .ok (.iload_n 2, 1) := by decide +kernel
theorem dX11_terms_11 : decode cX11_terms 11 = .ok (.iconst 1, 1) := by decide +kernel
theorem dX11_terms_12 : decode cX11_terms 12 = .ok (.bipush 90, 2) := by decide +kernel
theorem dX11_terms_14 : decode cX11_terms 14 = .ok (.invokestatic 74, 3) := by decide +kernel
theorem dX11_terms_17 : decode cX11_terms 17 = .ok (.ifCond .eq 13, 3) := by decide +kernel
theorem dX11_terms_20 : decode cX11_terms 20 = .ok (.iload_n 3, 1) := by decide +kernel
theorem dX11_terms_21 : decode cX11_terms 21 = .ok (.iconst 0, 1) := by decide +kernel
theorem dX11_terms_22 : decode cX11_terms 22 = .ok (.bipush 30, 2) := by decide +kernel
theorem dX11_terms_24 : decode cX11_terms 24 = .ok (.invokestatic 74, 3) := by decide +kernel
theorem dX11_terms_27 : decode cX11_terms 27 = .ok (.ifCond .ne 10, 3) := by decide +kernel
theorem dX11_terms_30 : decode cX11_terms 30 = .ok (.aload_n 0, 1) := by decide +kernel
theorem dX11_terms_31 : decode cX11_terms 31 = .ok (.ldc 78, 2) := by decide +kernel
theorem dX11_terms_33 : decode cX11_terms 33 = .ok (.invokevirtual 62, 3) := by decide +kernel
theorem dX11_terms_36 : decode cX11_terms 36 = .ok (.ireturn, 1) := by decide +kernel
theorem dX11_terms_37 : decode cX11_terms 37 = .ok (.aload_n 0, 1) := by decide +kernel
theorem dX11_terms_38 : decode cX11_terms 38 = .ok (.invokevirtual 82, 3) := by decide +kernel
theorem dX11_terms_41 : decode cX11_terms 41 = .ok (.aload_n 0, 1) := by decide +kernel
theorem dX11_terms_42 : decode cX11_terms 42 = .ok (.getfield 10, 3) := by decide +kernel
theorem dX11_terms_45 : decode cX11_terms 45 = .ok (.iload_n 1, 1) := by decide +kernel
theorem dX11_terms_46 : decode cX11_terms 46 = .ok (.putfield 172, 3) := by decide +kernel
theorem dX11_terms_49 : decode cX11_terms 49 = .ok (.aload_n 0, 1) := by decide +kernel
theorem dX11_terms_50 : decode cX11_terms 50 = .ok (.getfield 10, 3) := by decide +kernel
theorem dX11_terms_53 : decode cX11_terms 53 = .ok (.iload_n 2, 1) := by decide +kernel
theorem dX11_terms_54 : decode cX11_terms 54 = .ok (.putfield 175, 3) := by decide +kernel
theorem dX11_terms_57 : decode cX11_terms 57 = .ok (.aload_n 0, 1) := by decide +kernel
theorem dX11_terms_58 : decode cX11_terms 58 = .ok (.getfield 10, 3) := by decide +kernel
theorem dX11_terms_61 : decode cX11_terms 61 = .ok (.iload_n 3, 1) := by decide +kernel
theorem dX11_terms_62 : decode cX11_terms 62 = .ok (.putfield 178, 3) := by decide +kernel
theorem dX11_terms_65 : decode cX11_terms 65 = .ok (.iconst 1, 1) := by decide +kernel
theorem dX11_terms_66 : decode cX11_terms 66 = .ok (.ireturn, 1) := by decide +kernel
theorem dX11_routes_0 : decode cX11_routes 0 = .ok (.aload_n 0, 1) := by decide +kernel
theorem dX11_routes_1 : decode cX11_routes 1 = .ok (.getfield 10, 3) := by decide +kernel
theorem dX11_routes_4 : decode cX11_routes 4 = .ok (.iload_n 1, 1) := by decide +kernel
theorem dX11_routes_5 : decode cX11_routes 5 = .ok (.invokevirtual 106, 3) := by decide +kernel
theorem dX11_routes_8 : decode cX11_routes 8 = .ok (.ifCond .ne 10, 3) := by decide +kernel
theorem dX11_routes_11 : decode cX11_routes 11 = .ok (.aload_n 0, 1) := by decide +kernel
theorem dX11_routes_12 : decode cX11_routes 12 = .ok (.ldc 78, 2) := by decide +kernel
theorem dX11_routes_14 : decode cX11_routes 14 = .ok (.invokevirtual 62, 3) := by decide +kernel
theorem dX11_routes_17 : decode cX11_routes 17 = .ok (.ireturn, 1) := by decide +kernel
theorem dX11_routes_18 : decode cX11_routes 18 = .ok (.aload_n 0, 1) := by decide +kernel
theorem dX11_routes_19 : decode cX11_routes 19 = .ok (.invokevirtual 181, 3) := by decide +kernel
theorem dX11_routes_22 : decode cX11_routes 22 = .ok (.aload_n 0, 1) := by decide +kernel
theorem dX11_routes_23 : decode cX11_routes 23 = .ok (.getfield 10, 3) := by decide +kernel
theorem dX11_routes_26 : decode cX11_routes 26 = .ok (.getfield 109, 3) := by decide +kernel
theorem dX11_routes_29 : decode cX11_routes 29 = .ok (.iload_n 1, 1) := by decide +kernel
theorem dX11_routes_30 : decode cX11_routes 30 = .ok (.aaload, 1) := by decide +kernel
theorem dX11_routes_31 : decode cX11_routes 31 = .ok (.astore_n 2, 1) := by decide +kernel
theorem dX11_routes_32 : decode cX11_routes 32 = .ok (.aload_n 2, 1) := by decide +kernel
theorem dX11_routes_33 : decode cX11_routes 33 = .ok (.getfield 184, 3) := by decide +kernel
theorem dX11_routes_36 : decode cX11_routes 36 = .ok (.ifCond .eq 10, 3) := by decide +kernel
theorem dX11_routes_39 : decode cX11_routes 39 = .ok (.aload_n 2, 1) := by decide +kernel
theorem dX11_routes_40 : decode cX11_routes 40 = .ok (.getfield 187, 3) := by decide +kernel
theorem dX11_routes_43 : decode cX11_routes 43 = .ok (.goto 9, 3) := by decide +kernel
theorem dX11_routes_46 : decode cX11_routes 46 = .ok (.aload_n 0, 1) := by decide +kernel
theorem dX11_routes_47 : decode cX11_routes 47 = .ok (.ldc 98, 2) := by decide +kernel
theorem dX11_routes_49 : decode cX11_routes 49 = .ok (.invokevirtual 62, 3) := by decide +kernel
theorem dX11_routes_52 : decode cX11_routes 52 = .ok (.ireturn, 1) := by decide +kernel
theorem dX11_route_0 : decode cX11_route 0 = .ok (.aload_n 0, 1) := by decide +kernel
theorem dX11_route_1 : decode cX11_route 1 = .ok (.getfield 10, 3) := by decide +kernel
theorem dX11_route_4 : decode cX11_route 4 = .ok (.iload_n 1, 1) := by decide +kernel
theorem dX11_route_5 : decode cX11_route 5 = .ok (.invokevirtual 106, 3) := by decide +kernel
theorem dX11_route_8 : decode cX11_route 8 = .ok (.ifCond .eq 12, 3) := by decide +kernel
theorem dX11_route_11 : decode cX11_route 11 = .ok (.iload_n 2, 1) := by decide +kernel
theorem dX11_route_12 : decode cX11_route 12 = .ok (.ifCond .lt 8, 3) := by decide +kernel
theorem dX11_route_15 : decode cX11_route 15 = .ok (.iload_n 3, 1) := by decide +kernel
theorem dX11_route_16 : decode cX11_route 16 = .ok (.iconst (-1), 1) := by decide +kernel
theorem dX11_route_17 : decode cX11_route 17 = .ok (.if_icmp .ge 10, 3) := by decide +kernel
theorem dX11_route_20 : decode cX11_route 20 = .ok (.aload_n 0, 1) := by decide +kernel
theorem dX11_route_21 : decode cX11_route 21 = .ok (.ldc 78, 2) := by decide +kernel
theorem dX11_route_23 : decode cX11_route 23 = .ok (.invokevirtual 62, 3) := by decide +kernel
theorem dX11_route_26 : decode cX11_route 26 = .ok (.ireturn, 1) := by decide +kernel
theorem dX11_route_27 : decode cX11_route 27 = .ok (.aload_n 0, 1) := by decide +kernel
theorem dX11_route_28 : decode cX11_route 28 = .ok (.invokevirtual 181, 3) := by decide +kernel
theorem dX11_route_31 : decode cX11_route 31 = .ok (.aload_n 0, 1) := by decide +kernel
theorem dX11_route_32 : decode cX11_route 32 = .ok (.getfield 10, 3) := by decide +kernel
theorem dX11_route_35 : decode cX11_route 35 = .ok (.getfield 109, 3) := by decide +kernel
theorem dX11_route_38 : decode cX11_route 38 = .ok (.iload_n 1, 1) := by decide +kernel
theorem dX11_route_39 : decode cX11_route 39 = .ok (.aaload, 1) := by decide +kernel
theorem dX11_route_40 : decode cX11_route 40 = .ok (.astore 4, 2) := by decide +kernel
theorem dX11_route_42 : decode cX11_route 42 = .ok (.aload 4, 2) := by decide +kernel
theorem dX11_route_44 : decode cX11_route 44 = .ok (.getfield 184, 3) := by decide +kernel
theorem dX11_route_47 : decode cX11_route 47 = .ok (.ifCond .eq 12, 3) := by decide +kernel
theorem dX11_route_50 : decode cX11_route 50 = .ok (.iload_n 2, 1) := by decide +kernel
theorem dX11_route_51 : decode cX11_route 51 = .ok (.aload 4, 2) := by decide +kernel
theorem dX11_route_53 : decode cX11_route 53 = .ok (.getfield 187, 3) := by decide +kernel
theorem dX11_route_56 : decode cX11_route 56 = .ok (.if_icmp .lt 10, 3) := by decide +kernel
theorem dX11_route_59 : decode cX11_route 59 = .ok (.aload_n 0, 1) := by decide +kernel
theorem dX11_route_60 : decode cX11_route 60 = .ok (.ldc 98, 2) := by decide +kernel
theorem dX11_route_62 : decode cX11_route 62 = .ok (.invokevirtual 62, 3) := by decide +kernel
theorem dX11_route_65 : decode cX11_route 65 = .ok (.ireturn, 1) := by decide +kernel
theorem dX11_route_66 : decode cX11_route 66 = .ok (.iload_n 3, 1) := by decide +kernel
theorem dX11_route_67 : decode cX11_route 67 = .ok (.iconst (-1), 1) := by decide +kernel
theorem dX11_route_68 : decode cX11_route 68 = .ok (.if_icmp .ne 11, 3) := by decide +kernel
theorem dX11_route_71 : decode cX11_route 71 = .ok (.aload 4, 2) := by decide +kernel
theorem dX11_route_73 : decode cX11_route 73 = .ok (.getfield 190, 3) := by decide +kernel
theorem dX11_route_76 : decode cX11_route 76 = .ok (.iload_n 2, 1) := by decide +kernel
theorem dX11_route_77 : decode cX11_route 77 = .ok (.iaload, 1) := by decide +kernel
theorem dX11_route_78 : decode cX11_route 78 = .ok (.ireturn, 1) := by decide +kernel
theorem dX11_route_79 : decode cX11_route 79 = .ok (.iload_n 3, 1) := by decide +kernel
theorem dX11_route_80 : decode cX11_route 80 = .ok (.aload 4, 2) := by decide +kernel
theorem dX11_route_82 : decode cX11_route 82 = .ok (.iload_n 2, 1) := by decide +kernel
theorem dX11_route_83 : decode cX11_route 83 = .ok (.invokevirtual 193, 3) := by decide +kernel
theorem dX11_route_86 : decode cX11_route 86 = .ok (.if_icmp .ge 21, 3) := by decide +kernel
theorem dX11_route_89 : decode cX11_route 89 = .ok (.aload 4, 2) := by decide +kernel
theorem dX11_route_91 : decode cX11_route 91 = .ok (.getfield 196, 3) := by decide +kernel
theorem dX11_route_94 : decode cX11_route 94 = .ok (.aload 4, 2) := by decide +kernel
theorem dX11_route_96 : decode cX11_route 96 = .ok (.getfield 199, 3) := by decide +kernel
theorem dX11_route_99 : decode cX11_route 99 = .ok (.iload_n 2, 1) := by decide +kernel
theorem dX11_route_100 : decode cX11_route 100 = .ok (.iaload, 1) := by decide +kernel
theorem dX11_route_101 : decode cX11_route 101 = .ok (.iload_n 3, 1) := by decide +kernel
theorem dX11_route_102 : decode cX11_route 102 = .ok (.iadd, 1) := by decide +kernel
theorem dX11_route_103 : decode cX11_route 103 = .ok (.iaload, 1) := by decide +kernel
theorem dX11_route_104 : decode cX11_route 104 = .ok (.goto 4, 3) := by decide +kernel
theorem dX11_route_107 : decode cX11_route 107 = .ok (.iconst (-1), 1) := by decide +kernel
theorem dX11_route_108 : decode cX11_route 108 = .ok (.ireturn, 1) := by decide +kernel
theorem dX11_ride_0 : decode cX11_ride 0 = .ok (.aload_n 0, 1) := by decide +kernel
theorem dX11_ride_1 : decode cX11_ride 1 = .ok (.getfield 10, 3) := by decide +kernel
theorem dX11_ride_4 : decode cX11_ride 4 = .ok (.iload_n 1, 1) := by decide +kernel
theorem dX11_ride_5 : decode cX11_ride 5 = .ok (.invokevirtual 156, 3) := by decide +kernel
theorem dX11_ride_8 : decode cX11_ride 8 = .ok (.ifCond .ne 10, 3) := by decide +kernel
theorem dX11_ride_11 : decode cX11_ride 11 = .ok (.aload_n 0, 1) := by decide +kernel
theorem dX11_ride_12 : decode cX11_ride 12 = .ok (.ldc 78, 2) := by decide +kernel
theorem dX11_ride_14 : decode cX11_ride 14 = .ok (.invokevirtual 62, 3) := by decide +kernel
theorem dX11_ride_17 : decode cX11_ride 17 = .ok (.ireturn, 1) := by decide +kernel
theorem dX11_ride_18 : decode cX11_ride 18 = .ok (.aload_n 0, 1) := by decide +kernel
theorem dX11_ride_19 : decode cX11_ride 19 = .ok (.invokevirtual 181, 3) := by decide +kernel
theorem dX11_ride_22 : decode cX11_ride 22 = .ok (.aload_n 0, 1) := by decide +kernel
theorem dX11_ride_23 : decode cX11_ride 23 = .ok (.getfield 10, 3) := by decide +kernel
theorem dX11_ride_26 : decode cX11_ride 26 = .ok (.getfield 109, 3) := by decide +kernel
theorem dX11_ride_29 : decode cX11_ride 29 = .ok (.aload_n 0, 1) := by decide +kernel
theorem dX11_ride_30 : decode cX11_ride 30 = .ok (.getfield 10, 3) := by decide +kernel
theorem dX11_ride_33 : decode cX11_ride 33 = .ok (.getfield 159, 3) := by decide +kernel
theorem dX11_ride_36 : decode cX11_ride 36 = .ok (.iload_n 1, 1) := by decide +kernel
theorem dX11_ride_37 : decode cX11_ride 37 = .ok (.aaload, 1) := by decide +kernel
theorem dX11_ride_38 : decode cX11_ride 38 = .ok (.getfield 202, 3) := by decide +kernel
theorem dX11_ride_41 : decode cX11_ride 41 = .ok (.aaload, 1) := by decide +kernel
theorem dX11_ride_42 : decode cX11_ride 42 = .ok (.getfield 184, 3) := by decide +kernel
theorem dX11_ride_45 : decode cX11_ride 45 = .ok (.ifCond .ne 10, 3) := by decide +kernel
theorem dX11_ride_48 : decode cX11_ride 48 = .ok (.aload_n 0, 1) := by decide +kernel
theorem dX11_ride_49 : decode cX11_ride 49 = .ok (.ldc 98, 2) := by decide +kernel
theorem dX11_ride_51 : decode cX11_ride 51 = .ok (.invokevirtual 62, 3) := by decide +kernel
theorem dX11_ride_54 : decode cX11_ride 54 = .ok (.ireturn, 1) := by decide +kernel
theorem dX11_ride_55 : decode cX11_ride 55 = .ok (.aload_n 0, 1) := by decide +kernel
theorem dX11_ride_56 : decode cX11_ride 56 = .ok (.getfield 10, 3) := by decide +kernel
theorem dX11_ride_59 : decode cX11_ride 59 = .ok (.iload_n 1, 1) := by decide +kernel
theorem dX11_ride_60 : decode cX11_ride 60 = .ok (.invokevirtual 205, 3) := by decide +kernel
theorem dX11_ride_63 : decode cX11_ride 63 = .ok (.ireturn, 1) := by decide +kernel
theorem dX11_all_0 : decode cX11_all 0 = .ok (.aload_n 0, 1) := by decide +kernel
theorem dX11_all_1 : decode cX11_all 1 = .ok (.invokevirtual 181, 3) := by decide +kernel
theorem dX11_all_4 : decode cX11_all 4 = .ok (.aload_n 0, 1) := by decide +kernel
theorem dX11_all_5 : decode cX11_all 5 = .ok (.getfield 19, 3) := by decide +kernel
theorem dX11_all_8 : decode cX11_all 8 = .ok (.getfield 208, 3) := by decide +kernel
theorem dX11_all_11 : decode cX11_all 11 = .ok (.ifCond .eq 13, 3) := by decide +kernel
theorem dX11_all_14 : decode cX11_all 14 = .ok (.aload_n 0, 1) := by decide +kernel
theorem dX11_all_15 : decode cX11_all 15 = .ok (.getfield 19, 3) := by decide +kernel
theorem dX11_all_18 : decode cX11_all 18 = .ok (.getfield 211, 3) := by decide +kernel
theorem dX11_all_21 : decode cX11_all 21 = .ok (.goto 9, 3) := by decide +kernel
theorem dX11_all_24 : decode cX11_all 24 = .ok (.aload_n 0, 1) := by decide +kernel
theorem dX11_all_25 : decode cX11_all 25 = .ok (.ldc 98, 2) := by decide +kernel
theorem dX11_all_27 : decode cX11_all 27 = .ok (.invokevirtual 62, 3) := by decide +kernel
theorem dX11_all_30 : decode cX11_all 30 = .ok (.ireturn, 1) := by decide +kernel
theorem dX11_start_0 : decode cX11_start 0 = .ok (.iload_n 1, 1) := by decide +kernel
theorem dX11_start_1 : decode cX11_start 1 = .ok (.ifCond .ge 10, 3) := by decide +kernel
theorem dX11_start_4 : decode cX11_start 4 = .ok (.aload_n 0, 1) := by decide +kernel
theorem dX11_start_5 : decode cX11_start 5 = .ok (.ldc 78, 2) := by decide +kernel
theorem dX11_start_7 : decode cX11_start 7 = .ok (.invokevirtual 62, 3) := by decide +kernel
theorem dX11_start_10 : decode cX11_start 10 = .ok (.ireturn, 1) := by decide +kernel
theorem dX11_start_11 : decode cX11_start 11 = .ok (.aload_n 0, 1) := by decide +kernel
theorem dX11_start_12 : decode cX11_start 12 = .ok (.invokevirtual 181, 3) := by decide +kernel
theorem dX11_start_15 : decode cX11_start 15 = .ok (.aload_n 0, 1) := by decide +kernel
theorem dX11_start_16 : decode cX11_start 16 = .ok (.getfield 19, 3) := by decide +kernel
theorem dX11_start_19 : decode cX11_start 19 = .ok (.iload_n 1, 1) := by decide +kernel
theorem dX11_start_20 : decode cX11_start 20 = .ok (.invokevirtual 214, 3) := by decide +kernel
theorem dX11_start_23 : decode cX11_start 23 = .ok (.ifCond .eq 18, 3) := by decide +kernel
theorem dX11_start_26 : decode cX11_start 26 = .ok (.aload_n 0, 1) := by decide +kernel
theorem dX11_start_27 : decode cX11_start 27 = .ok (.getfield 19, 3) := by decide +kernel
theorem dX11_start_30 : decode cX11_start 30 = .ok (.aload_n 0, 1) := by decide +kernel
theorem dX11_start_31 : decode cX11_start 31 = .ok (.getfield 10, 3) := by decide +kernel
theorem dX11_start_34 : decode cX11_start 34 = .ok (.iload_n 1, 1) := by decide +kernel
theorem dX11_start_35 : decode cX11_start 35 = .ok (.invokevirtual 217, 3) := by decide +kernel
theorem dX11_start_38 : decode cX11_start 38 = .ok (.goto 9, 3) := by decide +kernel
theorem dX11_start_41 : decode cX11_start 41 = .ok (.aload_n 0, 1) := by decide +kernel
theorem dX11_start_42 : decode cX11_start 42 = .ok (.ldc 98, 2) := by decide +kernel
theorem dX11_start_44 : decode cX11_start 44 = .ok (.invokevirtual 62, 3) := by decide +kernel
theorem dX11_start_47 : decode cX11_start 47 = .ok (.ireturn, 1) := by decide +kernel
theorem dX11_follows_0 : decode cX11_follows 0 = .ok (.iload_n 1, 1) := by decide +kernel
theorem dX11_follows_1 : decode cX11_follows 1 = .ok (.ifCond .lt 12, 3) := by decide +kernel
theorem dX11_follows_4 : decode cX11_follows 4 = .ok (.iload_n 2, 1) := by decide +kernel
theorem dX11_follows_5 : decode cX11_follows 5 = .ok (.ifCond .lt 8, 3) := by decide +kernel
theorem dX11_follows_8 : decode cX11_follows 8 = .ok (.iload_n 1, 1) := by decide +kernel
theorem dX11_follows_9 : decode cX11_follows 9 = .ok (.iload_n 2, 1) := by decide +kernel
theorem dX11_follows_10 : decode cX11_follows 10 = .ok (.if_icmp .ne 10, 3) := by decide +kernel
theorem dX11_follows_13 : decode cX11_follows 13 = .ok (.aload_n 0, 1) := by decide +kernel
theorem dX11_follows_14 : decode cX11_follows 14 = .ok (.ldc 78, 2) := by decide +kernel
theorem dX11_follows_16 : decode cX11_follows 16 = .ok (.invokevirtual 62, 3) := by decide +kernel
theorem dX11_follows_19 : decode cX11_follows 19 = .ok (.ireturn, 1) := by decide +kernel
theorem dX11_follows_20 : decode cX11_follows 20 = .ok (.aload_n 0, 1) := by decide +kernel
theorem dX11_follows_21 : decode cX11_follows 21 = .ok (.invokevirtual 181, 3) := by decide +kernel
theorem dX11_follows_24 : decode cX11_follows 24 = .ok (.aload_n 0, 1) := by decide +kernel
theorem dX11_follows_25 : decode cX11_follows 25 = .ok (.getfield 19, 3) := by decide +kernel
theorem dX11_follows_28 : decode cX11_follows 28 = .ok (.iload_n 1, 1) := by decide +kernel
theorem dX11_follows_29 : decode cX11_follows 29 = .ok (.invokevirtual 214, 3) := by decide +kernel
theorem dX11_follows_32 : decode cX11_follows 32 = .ok (.ifCond .eq 14, 3) := by decide +kernel
theorem dX11_follows_35 : decode cX11_follows 35 = .ok (.aload_n 0, 1) := by decide +kernel
theorem dX11_follows_36 : decode cX11_follows 36 = .ok (.getfield 19, 3) := by decide +kernel
theorem dX11_follows_39 : decode cX11_follows 39 = .ok (.iload_n 2, 1) := by decide +kernel
theorem dX11_follows_40 : decode cX11_follows 40 = .ok (.invokevirtual 214, 3) := by decide +kernel
theorem dX11_follows_43 : decode cX11_follows 43 = .ok (.ifCond .ne 10, 3) := by decide +kernel
theorem dX11_follows_46 : decode cX11_follows 46 = .ok (.aload_n 0, 1) := by decide +kernel
theorem dX11_follows_47 : decode cX11_follows 47 = .ok (.ldc 98, 2) := by decide +kernel
theorem dX11_follows_49 : decode cX11_follows 49 = .ok (.invokevirtual 62, 3) := by decide +kernel
theorem dX11_follows_52 : decode cX11_follows 52 = .ok (.ireturn, 1) := by decide +kernel
theorem dX11_follows_53 : decode cX11_follows 53 = .ok (.aload_n 0, 1) := by decide +kernel
theorem dX11_follows_54 : decode cX11_follows 54 = .ok (.getfield 19, 3) := by decide +kernel
theorem dX11_follows_57 : decode cX11_follows 57 = .ok (.aload_n 0, 1) := by decide +kernel
theorem dX11_follows_58 : decode cX11_follows 58 = .ok (.getfield 10, 3) := by decide +kernel
theorem dX11_follows_61 : decode cX11_follows 61 = .ok (.getfield 126, 3) := by decide +kernel
theorem dX11_follows_64 : decode cX11_follows 64 = .ok (.iload_n 1, 1) := by decide +kernel
theorem dX11_follows_65 : decode cX11_follows 65 = .ok (.iload_n 2, 1) := by decide +kernel
theorem dX11_follows_66 : decode cX11_follows 66 = .ok (.invokevirtual 221, 3) := by decide +kernel
theorem dX11_follows_69 : decode cX11_follows 69 = .ok (.ifCond .eq 7, 3) := by decide +kernel
theorem dX11_follows_72 : decode cX11_follows 72 = .ok (.iconst 1, 1) := by decide +kernel
theorem dX11_follows_73 : decode cX11_follows 73 = .ok (.goto 4, 3) := by decide +kernel
theorem dX11_follows_76 : decode cX11_follows 76 = .ok (.iconst 0, 1) := by decide +kernel
theorem dX11_follows_77 : decode cX11_follows 77 = .ok (.ireturn, 1) := by decide +kernel
theorem dX11_buses_0 : decode cX11_buses 0 = .ok (.aload_n 0, 1) := by decide +kernel
theorem dX11_buses_1 : decode cX11_buses 1 = .ok (.invokevirtual 225, 3) := by decide +kernel
theorem dX11_buses_4 : decode cX11_buses 4 = .ok (.ifCond .eq 13, 3) := by decide +kernel
theorem dX11_buses_7 : decode cX11_buses 7 = .ok (.aload_n 0, 1) := by decide +kernel
theorem dX11_buses_8 : decode cX11_buses 8 = .ok (.getfield 19, 3) := by decide +kernel
theorem dX11_buses_11 : decode cX11_buses 11 = .ok (.invokevirtual 229, 3) := by decide +kernel
theorem dX11_buses_14 : decode cX11_buses 14 = .ok (.goto 9, 3) := by decide +kernel
theorem dX11_buses_17 : decode cX11_buses 17 = .ok (.aload_n 0, 1) := by decide +kernel
theorem dX11_buses_18 : decode cX11_buses 18 = .ok (.ldc 98, 2) := by decide +kernel
theorem dX11_buses_20 : decode cX11_buses 20 = .ok (.invokevirtual 62, 3) := by decide +kernel
theorem dX11_buses_23 : decode cX11_buses 23 = .ok (.ireturn, 1) := by decide +kernel
theorem dX11_chain_0 : decode cX11_chain 0 = .ok (.iload_n 1, 1) := by decide +kernel
theorem dX11_chain_1 : decode cX11_chain 1 = .ok (.ifCond .lt 7, 3) := by decide +kernel
theorem dX11_chain_4 : decode cX11_chain 4 = .ok (.iload_n 2, 1) := by decide +kernel
theorem dX11_chain_5 : decode cX11_chain 5 = .ok (.ifCond .ge 10, 3) := by decide +kernel
theorem dX11_chain_8 : decode cX11_chain 8 = .ok (.aload_n 0, 1) := by decide +kernel
theorem dX11_chain_9 : decode cX11_chain 9 = .ok (.ldc 78, 2) := by decide +kernel
theorem dX11_chain_11 : decode cX11_chain 11 = .ok (.invokevirtual 62, 3) := by decide +kernel
theorem dX11_chain_14 : decode cX11_chain 14 = .ok (.ireturn, 1) := by decide +kernel
theorem dX11_chain_15 : decode cX11_chain 15 = .ok (.aload_n 0, 1) := by decide +kernel
theorem dX11_chain_16 : decode cX11_chain 16 = .ok (.invokevirtual 225, 3) := by decide +kernel
theorem dX11_chain_19 : decode cX11_chain 19 = .ok (.ifCond .eq 14, 3) := by decide +kernel
theorem dX11_chain_22 : decode cX11_chain 22 = .ok (.iload_n 1, 1) := by decide +kernel
theorem dX11_chain_23 : decode cX11_chain 23 = .ok (.aload_n 0, 1) := by decide +kernel
theorem dX11_chain_24 : decode cX11_chain 24 = .ok (.getfield 19, 3) := by decide +kernel
theorem dX11_chain_27 : decode cX11_chain 27 = .ok (.invokevirtual 229, 3) := by decide +kernel
theorem dX11_chain_30 : decode cX11_chain 30 = .ok (.if_icmp .lt 10, 3) := by decide +kernel
theorem dX11_chain_33 : decode cX11_chain 33 = .ok (.aload_n 0, 1) := by decide +kernel
theorem dX11_chain_34 : decode cX11_chain 34 = .ok (.ldc 98, 2) := by decide +kernel
theorem dX11_chain_36 : decode cX11_chain 36 = .ok (.invokevirtual 62, 3) := by decide +kernel
theorem dX11_chain_39 : decode cX11_chain 39 = .ok (.ireturn, 1) := by decide +kernel
theorem dX11_chain_40 : decode cX11_chain 40 = .ok (.aload_n 0, 1) := by decide +kernel
theorem dX11_chain_41 : decode cX11_chain 41 = .ok (.getfield 19, 3) := by decide +kernel
theorem dX11_chain_44 : decode cX11_chain 44 = .ok (.iload_n 1, 1) := by decide +kernel
theorem dX11_chain_45 : decode cX11_chain 45 = .ok (.iload_n 2, 1) := by decide +kernel
theorem dX11_chain_46 : decode cX11_chain 46 = .ok (.invokevirtual 232, 3) := by decide +kernel
theorem dX11_chain_49 : decode cX11_chain 49 = .ok (.ireturn, 1) := by decide +kernel
theorem dX11_aides_0 : decode cX11_aides 0 = .ok (.aload_n 0, 1) := by decide +kernel
theorem dX11_aides_1 : decode cX11_aides 1 = .ok (.invokevirtual 225, 3) := by decide +kernel
theorem dX11_aides_4 : decode cX11_aides 4 = .ok (.ifCond .eq 17, 3) := by decide +kernel
theorem dX11_aides_7 : decode cX11_aides 7 = .ok (.aload_n 0, 1) := by decide +kernel
theorem dX11_aides_8 : decode cX11_aides 8 = .ok (.getfield 19, 3) := by decide +kernel
theorem dX11_aides_11 : decode cX11_aides 11 = .ok (.aload_n 0, 1) := by decide +kernel
theorem dX11_aides_12 : decode cX11_aides 12 = .ok (.getfield 10, 3) := by decide +kernel
theorem dX11_aides_15 : decode cX11_aides 15 = .ok (.invokevirtual 235, 3) := by decide +kernel
theorem dX11_aides_18 : decode cX11_aides 18 = .ok (.goto 9, 3) := by decide +kernel
theorem dX11_aides_21 : decode cX11_aides 21 = .ok (.aload_n 0, 1) := by decide +kernel
theorem dX11_aides_22 : decode cX11_aides 22 = .ok (.ldc 98, 2) := by decide +kernel
theorem dX11_aides_24 : decode cX11_aides 24 = .ok (.invokevirtual 62, 3) := by decide +kernel
theorem dX11_aides_27 : decode cX11_aides 27 = .ok (.ireturn, 1) := by decide +kernel
theorem dX11_feed_0 : decode cX11_feed 0 = .ok (.iload_n 3, 1) := by decide +kernel
theorem dX11_feed_1 : decode cX11_feed 1 = .ok (.iconst 1, 1) := by decide +kernel
theorem dX11_feed_2 : decode cX11_feed 2 = .ok (.bipush 8, 2) := by decide +kernel
theorem dX11_feed_4 : decode cX11_feed 4 = .ok (.invokestatic 74, 3) := by decide +kernel
theorem dX11_feed_7 : decode cX11_feed 7 = .ok (.ifCond .ne 10, 3) := by decide +kernel
theorem dX11_feed_10 : decode cX11_feed 10 = .ok (.aload_n 0, 1) := by decide +kernel
theorem dX11_feed_11 : decode cX11_feed 11 = .ok (.ldc 78, 2) := by decide +kernel
theorem dX11_feed_13 : decode cX11_feed 13 = .ok (.invokevirtual 62, 3) := by decide +kernel
theorem dX11_feed_16 : decode cX11_feed 16 = .ok (.ireturn, 1) := by decide +kernel
theorem dX11_feed_17 : decode cX11_feed 17 = .ok (.aload_n 0, 1) := by decide +kernel
theorem dX11_feed_18 : decode cX11_feed 18 = .ok (.getfield 26, 3) := by decide +kernel
theorem dX11_feed_21 : decode cX11_feed 21 = .ok (.getfield 239, 3) := by decide +kernel
theorem dX11_feed_24 : decode cX11_feed 24 = .ok (.iload_n 3, 1) := by decide +kernel
theorem dX11_feed_25 : decode cX11_feed 25 = .ok (.iadd, 1) := by decide +kernel
theorem dX11_feed_26 : decode cX11_feed 26 = .ok (.bipush 60, 2) := by decide +kernel
theorem dX11_feed_28 : decode cX11_feed 28 = .ok (.if_icmp .le 10, 3) := by decide +kernel
theorem dX11_feed_31 : decode cX11_feed 31 = .ok (.aload_n 0, 1) := by decide +kernel
theorem dX11_feed_32 : decode cX11_feed 32 = .ok (.ldc 61, 2) := by decide +kernel
theorem dX11_feed_34 : decode cX11_feed 34 = .ok (.invokevirtual 62, 3) := by decide +kernel
theorem dX11_feed_37 : decode cX11_feed 37 = .ok (.ireturn, 1) := by decide +kernel
theorem dX11_feed_38 : decode cX11_feed 38 = .ok (.aload_n 0, 1) := by decide +kernel
theorem dX11_feed_39 : decode cX11_feed 39 = .ok (.getfield 26, 3) := by decide +kernel
theorem dX11_feed_42 : decode cX11_feed 42 = .ok (.lload_n 1, 1) := by decide +kernel
theorem dX11_feed_43 : decode cX11_feed 43 = .ok (.iload_n 3, 1) := by decide +kernel
theorem dX11_feed_44 : decode cX11_feed 44 = .ok (.invokevirtual 242, 3) := by decide +kernel
theorem dX11_feed_47 : decode cX11_feed 47 = .ok (.ireturn, 1) := by decide +kernel
theorem dX11_text_0 : decode cX11_text 0 = .ok (.aload_n 0, 1) := by decide +kernel
theorem dX11_text_1 : decode cX11_text 1 = .ok (.getfield 26, 3) := by decide +kernel
theorem dX11_text_4 : decode cX11_text 4 = .ok (.invokevirtual 246, 3) := by decide +kernel
theorem dX11_text_7 : decode cX11_text 7 = .ok (.istore_n 1, 1) := by decide +kernel
theorem dX11_text_8 : decode cX11_text 8 = .ok (.iload_n 1, 1) := by decide +kernel
theorem dX11_text_9 : decode cX11_text 9 = .ok (.ifCond .ge 15, 3) := by decide +kernel
theorem dX11_text_12 : decode cX11_text 12 = .ok (.aload_n 0, 1) := by decide +kernel
theorem dX11_text_13 : decode cX11_text 13 = .ok (.getfield 26, 3) := by decide +kernel
theorem dX11_text_16 : decode cX11_text 16 = .ok (.invokevirtual 249, 3) := by decide +kernel
theorem dX11_text_19 : decode cX11_text 19 = .ok (.aload_n 0, 1) := by decide +kernel
theorem dX11_text_20 : decode cX11_text 20 = .ok (.iconst 0, 1) := by decide +kernel
theorem dX11_text_21 : decode cX11_text 21 = .ok (.putfield 146, 3) := by decide +kernel
theorem dX11_text_24 : decode cX11_text 24 = .ok (.aload_n 0, 1) := by decide +kernel
theorem dX11_text_25 : decode cX11_text 25 = .ok (.getfield 26, 3) := by decide +kernel
theorem dX11_text_28 : decode cX11_text 28 = .ok (.iconst 0, 1) := by decide +kernel
theorem dX11_text_29 : decode cX11_text 29 = .ok (.putfield 239, 3) := by decide +kernel
theorem dX11_text_32 : decode cX11_text 32 = .ok (.iload_n 1, 1) := by decide +kernel
theorem dX11_text_33 : decode cX11_text 33 = .ok (.ifCond .ge 13, 3) := by decide +kernel
theorem dX11_text_36 : decode cX11_text 36 = .ok (.aload_n 0, 1) := by decide +kernel
theorem dX11_text_37 : decode cX11_text 37 = .ok (.getfield 26, 3) := by decide +kernel
theorem dX11_text_40 : decode cX11_text 40 = .ok (.getfield 252, 3) := by decide +kernel
theorem dX11_text_43 : decode cX11_text 43 = .ok (.goto 11, 3) := by decide +kernel
theorem dX11_text_46 : decode cX11_text 46 = .ok (.aload_n 0, 1) := by decide +kernel
theorem dX11_text_47 : decode cX11_text 47 = .ok (.ldc 253, 2) := by decide +kernel
theorem dX11_text_49 : decode cX11_text 49 = .ok (.iload_n 1, 1) := by decide +kernel
theorem dX11_text_50 : decode cX11_text 50 = .ok (.isub, 1) := by decide +kernel
theorem dX11_text_51 : decode cX11_text 51 = .ok (.invokevirtual 62, 3) := by decide +kernel
theorem dX11_text_54 : decode cX11_text 54 = .ok (.ireturn, 1) := by decide +kernel
theorem dX11_allowed_0 : decode cX11_allowed 0 = .ok (.aload_n 0, 1) := by decide +kernel
theorem dX11_allowed_1 : decode cX11_allowed 1 = .ok (.getfield 10, 3) := by decide +kernel
theorem dX11_allowed_4 : decode cX11_allowed 4 = .ok (.iload_n 1, 1) := by decide +kernel
theorem dX11_allowed_5 : decode cX11_allowed 5 = .ok (.invokevirtual 106, 3) := by decide +kernel
theorem dX11_allowed_8 : decode cX11_allowed 8 = .ok (.ifCond .eq 13, 3) := by decide +kernel
theorem dX11_allowed_11 : decode cX11_allowed 11 = .ok (.iload_n 2, 1) := by decide +kernel
theorem dX11_allowed_12 : decode cX11_allowed 12 = .ok (.iconst 0, 1) := by decide +kernel
theorem dX11_allowed_13 : decode cX11_allowed 13 = .ok (.bipush 6, 2) := by decide +kernel
theorem dX11_allowed_15 : decode cX11_allowed 15 = .ok (.invokestatic 74, 3) := by decide +kernel
theorem dX11_allowed_18 : decode cX11_allowed 18 = .ok (.ifCond .ne 10, 3) := by decide +kernel
theorem dX11_allowed_21 : decode cX11_allowed 21 = .ok (.aload_n 0, 1) := by decide +kernel
theorem dX11_allowed_22 : decode cX11_allowed 22 = .ok (.ldc 78, 2) := by decide +kernel
theorem dX11_allowed_24 : decode cX11_allowed 24 = .ok (.invokevirtual 62, 3) := by decide +kernel
theorem dX11_allowed_27 : decode cX11_allowed 27 = .ok (.ireturn, 1) := by decide +kernel
theorem dX11_allowed_28 : decode cX11_allowed 28 = .ok (.aload_n 0, 1) := by decide +kernel
theorem dX11_allowed_29 : decode cX11_allowed 29 = .ok (.getfield 26, 3) := by decide +kernel
theorem dX11_allowed_32 : decode cX11_allowed 32 = .ok (.aload_n 0, 1) := by decide +kernel
theorem dX11_allowed_33 : decode cX11_allowed 33 = .ok (.getfield 10, 3) := by decide +kernel
theorem dX11_allowed_36 : decode cX11_allowed 36 = .ok (.getfield 109, 3) := by decide +kernel
theorem dX11_allowed_39 : decode cX11_allowed 39 = .ok (.iload_n 1, 1) := by decide +kernel
theorem dX11_allowed_40 : decode cX11_allowed 40 = .ok (.aaload, 1) := by decide +kernel
theorem dX11_allowed_41 : decode cX11_allowed 41 = .ok (.getfield 113, 3) := by decide +kernel
theorem dX11_allowed_44 : decode cX11_allowed 44 = .ok (.iload_n 2, 1) := by decide +kernel
theorem dX11_allowed_45 : decode cX11_allowed 45 = .ok (.invokevirtual 254, 3) := by decide +kernel
theorem dX11_allowed_48 : decode cX11_allowed 48 = .ok (.ifCond .eq 7, 3) := by decide +kernel
theorem dX11_allowed_51 : decode cX11_allowed 51 = .ok (.iconst 1, 1) := by decide +kernel
theorem dX11_allowed_52 : decode cX11_allowed 52 = .ok (.goto 4, 3) := by decide +kernel
theorem dX11_allowed_55 : decode cX11_allowed 55 = .ok (.iconst 0, 1) := by decide +kernel
theorem dX11_allowed_56 : decode cX11_allowed 56 = .ok (.ireturn, 1) := by decide +kernel
theorem dX11_cost_0 : decode cX11_cost 0 = .ok (.iconst 0, 1) := by decide +kernel
theorem dX11_cost_1 : decode cX11_cost 1 = .ok (.istore_n 1, 1) := by decide +kernel
theorem dX11_cost_2 : decode cX11_cost 2 = .ok (.iconst 0, 1) := by decide +kernel
theorem dX11_cost_3 : decode cX11_cost 3 = .ok (.istore_n 2, 1) := by decide +kernel
theorem dX11_cost_4 : decode cX11_cost 4 = .ok (.iload_n 2, 1) := by decide +kernel
theorem dX11_cost_5 : decode cX11_cost 5 = .ok (.aload_n 0, 1) := by decide +kernel
theorem dX11_cost_6 : decode cX11_cost 6 = .ok (.getfield 10, 3) := by decide +kernel
theorem dX11_cost_9 : decode cX11_cost 9 = .ok (.getfield 99, 3) := by decide +kernel
theorem dX11_cost_12 : decode cX11_cost 12 = .ok (.if_icmp .ge 29, 3) := by decide +kernel
theorem dX11_cost_15 : decode cX11_cost 15 = .ok (.iload_n 1, 1) := by decide +kernel
theorem dX11_cost_16 : decode cX11_cost 16 = .ok (.aload_n 0, 1) := by decide +kernel
theorem dX11_cost_17 : decode cX11_cost 17 = .ok (.getfield 10, 3) := by decide +kernel
theorem dX11_cost_20 : decode cX11_cost 20 = .ok (.iload_n 2, 1) := by decide +kernel
theorem dX11_cost_21 : decode cX11_cost 21 = .ok (.aload_n 0, 1) := by decide +kernel
theorem dX11_cost_22 : decode cX11_cost 22 = .ok (.getfield 10, 3) := by decide +kernel
theorem dX11_cost_25 : decode cX11_cost 25 = .ok (.getfield 126, 3) := by decide +kernel
theorem dX11_cost_28 : decode cX11_cost 28 = .ok (.iload_n 2, 1) := by decide +kernel
