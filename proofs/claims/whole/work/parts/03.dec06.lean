theorem dX12_part_12 : decode cX12_part 12 = .ok (.iload_n 2, 1) := by decide +kernel
theorem dX12_part_13 : decode cX12_part 13 = .ok (.ldc 192, 2) := by decide +kernel
theorem dX12_part_15 : decode cX12_part 15 = .ok (.iastore, 1) := by decide +kernel
theorem dX12_part_16 : decode cX12_part 16 = .ok (.iload_n 2, 1) := by decide +kernel
theorem dX12_part_17 : decode cX12_part 17 = .ok (.iload_n 2, 1) := by decide +kernel
theorem dX12_part_18 : decode cX12_part 18 = .ok (.ineg, 1) := by decide +kernel
theorem dX12_part_19 : decode cX12_part 19 = .ok (.iand, 1) := by decide +kernel
theorem dX12_part_20 : decode cX12_part 20 = .ok (.istore_n 3, 1) := by decide +kernel
theorem dX12_part_21 : decode cX12_part 21 = .ok (.iload_n 3, 1) := by decide +kernel
theorem dX12_part_22 : decode cX12_part 22 = .ok (.istore 4, 2) := by decide +kernel
theorem dX12_part_24 : decode cX12_part 24 = .ok (.iload 4, 2) := by decide +kernel
theorem dX12_part_26 : decode cX12_part 26 = .ok (.iload_n 2, 1) := by decide +kernel
theorem dX12_part_27 : decode cX12_part 27 = .ok (.if_icmp .gt 149, 3) := by decide +kernel
theorem dX12_part_30 : decode cX12_part 30 = .ok (.iload 4, 2) := by decide +kernel
theorem dX12_part_32 : decode cX12_part 32 = .ok (.iload_n 2, 1) := by decide +kernel
theorem dX12_part_33 : decode cX12_part 33 = .ok (.iconst (-1), 1) := by decide +kernel
theorem dX12_part_34 : decode cX12_part 34 = .ok (.ixor, 1) := by decide +kernel
theorem dX12_part_35 : decode cX12_part 35 = .ok (.iand, 1) := by decide +kernel
theorem dX12_part_36 : decode cX12_part 36 = .ok (.ifCond .ne 134, 3) := by decide +kernel
theorem dX12_part_39 : decode cX12_part 39 = .ok (.iload 4, 2) := by decide +kernel
theorem dX12_part_41 : decode cX12_part 41 = .ok (.iload_n 3, 1) := by decide +kernel
theorem dX12_part_42 : decode cX12_part 42 = .ok (.iand, 1) := by decide +kernel
theorem dX12_part_43 : decode cX12_part 43 = .ok (.ifCond .eq 127, 3) := by decide +kernel
theorem dX12_part_46 : decode cX12_part 46 = .ok (.aload_n 0, 1) := by decide +kernel
theorem dX12_part_47 : decode cX12_part 47 = .ok (.iload_n 1, 1) := by decide +kernel
theorem dX12_part_48 : decode cX12_part 48 = .ok (.iload 4, 2) := by decide +kernel
theorem dX12_part_50 : decode cX12_part 50 = .ok (.invokevirtual 227, 3) := by decide +kernel
theorem dX12_part_53 : decode cX12_part 53 = .ok (.ifCond .ne 6, 3) := by decide +kernel
theorem dX12_part_56 : decode cX12_part 56 = .ok (.goto 114, 3) := by decide +kernel
theorem dX12_part_59 : decode cX12_part 59 = .ok (.iload_n 2, 1) := by decide +kernel
theorem dX12_part_60 : decode cX12_part 60 = .ok (.iload 4, 2) := by decide +kernel
theorem dX12_part_62 : decode cX12_part 62 = .ok (.iconst (-1), 1) := by decide +kernel
theorem dX12_part_63 : decode cX12_part 63 = .ok (.ixor, 1) := by decide +kernel
theorem dX12_part_64 : decode cX12_part 64 = .ok (.iand, 1) := by decide +kernel
theorem dX12_part_65 : decode cX12_part 65 = .ok (.istore 5, 2) := by decide +kernel
theorem dX12_part_67 : decode cX12_part 67 = .ok (.aload_n 0, 1) := by decide +kernel
theorem dX12_part_68 : decode cX12_part 68 = .ok (.getfield 84, 3) := by decide +kernel
theorem dX12_part_71 : decode cX12_part 71 = .ok (.iload 5, 2) := by decide +kernel
theorem dX12_part_73 : decode cX12_part 73 = .ok (.iaload, 1) := by decide +kernel
theorem dX12_part_74 : decode cX12_part 74 = .ok (.ldc 192, 2) := by decide +kernel
theorem dX12_part_76 : decode cX12_part 76 = .ok (.if_icmp .lt 6, 3) := by decide +kernel
theorem dX12_part_79 : decode cX12_part 79 = .ok (.goto 91, 3) := by decide +kernel
theorem dX12_part_82 : decode cX12_part 82 = .ok (.aload_n 0, 1) := by decide +kernel
theorem dX12_part_83 : decode cX12_part 83 = .ok (.getfield 84, 3) := by decide +kernel
theorem dX12_part_86 : decode cX12_part 86 = .ok (.iload 5, 2) := by decide +kernel
theorem dX12_part_88 : decode cX12_part 88 = .ok (.iaload, 1) := by decide +kernel
theorem dX12_part_89 : decode cX12_part 89 = .ok (.iconst 1, 1) := by decide +kernel
theorem dX12_part_90 : decode cX12_part 90 = .ok (.iadd, 1) := by decide +kernel
theorem dX12_part_91 : decode cX12_part 91 = .ok (.istore 6, 2) := by decide +kernel
theorem dX12_part_93 : decode cX12_part 93 = .ok (.aload_n 0, 1) := by decide +kernel
theorem dX12_part_94 : decode cX12_part 94 = .ok (.getfield 87, 3) := by decide +kernel
theorem dX12_part_97 : decode cX12_part 97 = .ok (.iload 5, 2) := by decide +kernel
theorem dX12_part_99 : decode cX12_part 99 = .ok (.iaload, 1) := by decide +kernel
theorem dX12_part_100 : decode cX12_part 100 = .ok (.aload_n 0, 1) := by decide +kernel
theorem dX12_part_101 : decode cX12_part 101 = .ok (.getfield 81, 3) := by decide +kernel
theorem dX12_part_104 : decode cX12_part 104 = .ok (.iload 4, 2) := by decide +kernel
theorem dX12_part_106 : decode cX12_part 106 = .ok (.iaload, 1) := by decide +kernel
theorem dX12_part_107 : decode cX12_part 107 = .ok (.iadd, 1) := by decide +kernel
theorem dX12_part_108 : decode cX12_part 108 = .ok (.istore 7, 2) := by decide +kernel
theorem dX12_part_110 : decode cX12_part 110 = .ok (.iload 6, 2) := by decide +kernel
theorem dX12_part_112 : decode cX12_part 112 = .ok (.aload_n 0, 1) := by decide +kernel
theorem dX12_part_113 : decode cX12_part 113 = .ok (.getfield 84, 3) := by decide +kernel
theorem dX12_part_116 : decode cX12_part 116 = .ok (.iload_n 2, 1) := by decide +kernel
theorem dX12_part_117 : decode cX12_part 117 = .ok (.iaload, 1) := by decide +kernel
theorem dX12_part_118 : decode cX12_part 118 = .ok (.if_icmp .gt 52, 3) := by decide +kernel
theorem dX12_part_121 : decode cX12_part 121 = .ok (.iload 6, 2) := by decide +kernel
theorem dX12_part_123 : decode cX12_part 123 = .ok (.aload_n 0, 1) := by decide +kernel
theorem dX12_part_124 : decode cX12_part 124 = .ok (.getfield 84, 3) := by decide +kernel
theorem dX12_part_127 : decode cX12_part 127 = .ok (.iload_n 2, 1) := by decide +kernel
theorem dX12_part_128 : decode cX12_part 128 = .ok (.iaload, 1) := by decide +kernel
theorem dX12_part_129 : decode cX12_part 129 = .ok (.if_icmp .ne 17, 3) := by decide +kernel
theorem dX12_part_132 : decode cX12_part 132 = .ok (.iload 7, 2) := by decide +kernel
theorem dX12_part_134 : decode cX12_part 134 = .ok (.aload_n 0, 1) := by decide +kernel
theorem dX12_part_135 : decode cX12_part 135 = .ok (.getfield 87, 3) := by decide +kernel
theorem dX12_part_138 : decode cX12_part 138 = .ok (.iload_n 2, 1) := by decide +kernel
theorem dX12_part_139 : decode cX12_part 139 = .ok (.iaload, 1) := by decide +kernel
theorem dX12_part_140 : decode cX12_part 140 = .ok (.if_icmp .lt 6, 3) := by decide +kernel
theorem dX12_part_143 : decode cX12_part 143 = .ok (.goto 27, 3) := by decide +kernel
theorem dX12_part_146 : decode cX12_part 146 = .ok (.aload_n 0, 1) := by decide +kernel
theorem dX12_part_147 : decode cX12_part 147 = .ok (.getfield 84, 3) := by decide +kernel
theorem dX12_part_150 : decode cX12_part 150 = .ok (.iload_n 2, 1) := by decide +kernel
theorem dX12_part_151 : decode cX12_part 151 = .ok (.iload 6, 2) := by decide +kernel
theorem dX12_part_153 : decode cX12_part 153 = .ok (.iastore, 1) := by decide +kernel
theorem dX12_part_154 : decode cX12_part 154 = .ok (.aload_n 0, 1) := by decide +kernel
theorem dX12_part_155 : decode cX12_part 155 = .ok (.getfield 87, 3) := by decide +kernel
theorem dX12_part_158 : decode cX12_part 158 = .ok (.iload_n 2, 1) := by decide +kernel
theorem dX12_part_159 : decode cX12_part 159 = .ok (.iload 7, 2) := by decide +kernel
theorem dX12_part_161 : decode cX12_part 161 = .ok (.iastore, 1) := by decide +kernel
theorem dX12_part_162 : decode cX12_part 162 = .ok (.aload_n 0, 1) := by decide +kernel
theorem dX12_part_163 : decode cX12_part 163 = .ok (.getfield 90, 3) := by decide +kernel
theorem dX12_part_166 : decode cX12_part 166 = .ok (.iload_n 2, 1) := by decide +kernel
theorem dX12_part_167 : decode cX12_part 167 = .ok (.iload 4, 2) := by decide +kernel
theorem dX12_part_169 : decode cX12_part 169 = .ok (.iastore, 1) := by decide +kernel
theorem dX12_part_170 : decode cX12_part 170 = .ok (.iinc 4 1, 3) := by decide +kernel
theorem dX12_part_173 : decode cX12_part 173 = .ok (.goto (-149), 3) := by decide +kernel
theorem dX12_part_176 : decode cX12_part 176 = .ok (.return_, 1) := by decide +kernel
theorem dX12_plan_0 : decode cX12_plan 0 = .ok (.aload_n 0, 1) := by decide +kernel
theorem dX12_plan_1 : decode cX12_plan 1 = .ok (.iconst 0, 1) := by decide +kernel
theorem dX12_plan_2 : decode cX12_plan 2 = .ok (.invokevirtual 193, 3) := by decide +kernel
theorem dX12_plan_5 : decode cX12_plan 5 = .ok (.aload_n 0, 1) := by decide +kernel
theorem dX12_plan_6 : decode cX12_plan 6 = .ok (.getfield 169, 3) := by decide +kernel
theorem dX12_plan_9 : decode cX12_plan 9 = .ok (.ifCond .eq 4, 3) := by decide +kernel
theorem dX12_plan_12 : decode cX12_plan 12 = .ok (.return_, 1) := by decide +kernel
theorem dX12_plan_13 : decode cX12_plan 13 = .ok (.aload_n 0, 1) := by decide +kernel
theorem dX12_plan_14 : decode cX12_plan 14 = .ok (.iconst 1, 1) := by decide +kernel
theorem dX12_plan_15 : decode cX12_plan 15 = .ok (.putfield 169, 3) := by decide +kernel
theorem dX12_plan_18 : decode cX12_plan 18 = .ok (.aload_n 0, 1) := by decide +kernel
theorem dX12_plan_19 : decode cX12_plan 19 = .ok (.iconst 0, 1) := by decide +kernel
theorem dX12_plan_20 : decode cX12_plan 20 = .ok (.putfield 230, 3) := by decide +kernel
theorem dX12_plan_23 : decode cX12_plan 23 = .ok (.aload_n 0, 1) := by decide +kernel
theorem dX12_plan_24 : decode cX12_plan 24 = .ok (.iconst 1, 1) := by decide +kernel
theorem dX12_plan_25 : decode cX12_plan 25 = .ok (.putfield 233, 3) := by decide +kernel
theorem dX12_plan_28 : decode cX12_plan 28 = .ok (.aload_n 0, 1) := by decide +kernel
theorem dX12_plan_29 : decode cX12_plan 29 = .ok (.getfield 84, 3) := by decide +kernel
theorem dX12_plan_32 : decode cX12_plan 32 = .ok (.iconst 0, 1) := by decide +kernel
theorem dX12_plan_33 : decode cX12_plan 33 = .ok (.iconst 0, 1) := by decide +kernel
theorem dX12_plan_34 : decode cX12_plan 34 = .ok (.iastore, 1) := by decide +kernel
theorem dX12_plan_35 : decode cX12_plan 35 = .ok (.aload_n 0, 1) := by decide +kernel
theorem dX12_plan_36 : decode cX12_plan 36 = .ok (.getfield 87, 3) := by decide +kernel
theorem dX12_plan_39 : decode cX12_plan 39 = .ok (.iconst 0, 1) := by decide +kernel
theorem dX12_plan_40 : decode cX12_plan 40 = .ok (.iconst 0, 1) := by decide +kernel
theorem dX12_plan_41 : decode cX12_plan 41 = .ok (.iastore, 1) := by decide +kernel
theorem dX12_plan_42 : decode cX12_plan 42 = .ok (.iconst 0, 1) := by decide +kernel
theorem dX12_plan_43 : decode cX12_plan 43 = .ok (.istore_n 1, 1) := by decide +kernel
theorem dX12_plan_44 : decode cX12_plan 44 = .ok (.iload_n 1, 1) := by decide +kernel
theorem dX12_plan_45 : decode cX12_plan 45 = .ok (.aload_n 0, 1) := by decide +kernel
theorem dX12_plan_46 : decode cX12_plan 46 = .ok (.getfield 163, 3) := by decide +kernel
theorem dX12_plan_49 : decode cX12_plan 49 = .ok (.if_icmp .ge 197, 3) := by decide +kernel
theorem dX12_plan_52 : decode cX12_plan 52 = .ok (.aload_n 0, 1) := by decide +kernel
theorem dX12_plan_53 : decode cX12_plan 53 = .ok (.iload_n 1, 1) := by decide +kernel
theorem dX12_plan_54 : decode cX12_plan 54 = .ok (.invokevirtual 209, 3) := by decide +kernel
theorem dX12_plan_57 : decode cX12_plan 57 = .ok (.istore_n 2, 1) := by decide +kernel
theorem dX12_plan_58 : decode cX12_plan 58 = .ok (.iconst 1, 1) := by decide +kernel
theorem dX12_plan_59 : decode cX12_plan 59 = .ok (.istore_n 3, 1) := by decide +kernel
theorem dX12_plan_60 : decode cX12_plan 60 = .ok (.iload_n 3, 1) := by decide +kernel
theorem dX12_plan_61 : decode cX12_plan 61 = .ok (.iload_n 2, 1) := by decide +kernel
theorem dX12_plan_62 : decode cX12_plan 62 = .ok (.if_icmp .gt 32, 3) := by decide +kernel
theorem dX12_plan_65 : decode cX12_plan 65 = .ok (.iload_n 3, 1) := by decide +kernel
theorem dX12_plan_66 : decode cX12_plan 66 = .ok (.iload_n 2, 1) := by decide +kernel
theorem dX12_plan_67 : decode cX12_plan 67 = .ok (.iconst (-1), 1) := by decide +kernel
theorem dX12_plan_68 : decode cX12_plan 68 = .ok (.ixor, 1) := by decide +kernel
theorem dX12_plan_69 : decode cX12_plan 69 = .ok (.iand, 1) := by decide +kernel
theorem dX12_plan_70 : decode cX12_plan 70 = .ok (.ifCond .eq 6, 3) := by decide +kernel
theorem dX12_plan_73 : decode cX12_plan 73 = .ok (.goto 15, 3) := by decide +kernel
theorem dX12_plan_76 : decode cX12_plan 76 = .ok (.aload_n 0, 1) := by decide +kernel
theorem dX12_plan_77 : decode cX12_plan 77 = .ok (.iload_n 1, 1) := by decide +kernel
theorem dX12_plan_78 : decode cX12_plan 78 = .ok (.iload_n 3, 1) := by decide +kernel
theorem dX12_plan_79 : decode cX12_plan 79 = .ok (.invokevirtual 236, 3) := by decide +kernel
theorem dX12_plan_82 : decode cX12_plan 82 = .ok (.aload_n 0, 1) := by decide +kernel
theorem dX12_plan_83 : decode cX12_plan 83 = .ok (.iload_n 1, 1) := by decide +kernel
theorem dX12_plan_84 : decode cX12_plan 84 = .ok (.iload_n 3, 1) := by decide +kernel
theorem dX12_plan_85 : decode cX12_plan 85 = .ok (.invokevirtual 240, 3) := by decide +kernel
theorem dX12_plan_88 : decode cX12_plan 88 = .ok (.iinc 3 1, 3) := by decide +kernel
theorem dX12_plan_91 : decode cX12_plan 91 = .ok (.goto (-31), 3) := by decide +kernel
theorem dX12_plan_94 : decode cX12_plan 94 = .ok (.aload_n 0, 1) := by decide +kernel
theorem dX12_plan_95 : decode cX12_plan 95 = .ok (.getfield 102, 3) := by decide +kernel
theorem dX12_plan_98 : decode cX12_plan 98 = .ok (.iload_n 1, 1) := by decide +kernel
theorem dX12_plan_99 : decode cX12_plan 99 = .ok (.aload_n 0, 1) := by decide +kernel
theorem dX12_plan_100 : decode cX12_plan 100 = .ok (.getfield 230, 3) := by decide +kernel
theorem dX12_plan_103 : decode cX12_plan 103 = .ok (.iastore, 1) := by decide +kernel
theorem dX12_plan_104 : decode cX12_plan 104 = .ok (.aload_n 0, 1) := by decide +kernel
theorem dX12_plan_105 : decode cX12_plan 105 = .ok (.getfield 105, 3) := by decide +kernel
theorem dX12_plan_108 : decode cX12_plan 108 = .ok (.iload_n 1, 1) := by decide +kernel
theorem dX12_plan_109 : decode cX12_plan 109 = .ok (.aload_n 0, 1) := by decide +kernel
theorem dX12_plan_110 : decode cX12_plan 110 = .ok (.getfield 84, 3) := by decide +kernel
theorem dX12_plan_113 : decode cX12_plan 113 = .ok (.iload_n 2, 1) := by decide +kernel
theorem dX12_plan_114 : decode cX12_plan 114 = .ok (.iaload, 1) := by decide +kernel
theorem dX12_plan_115 : decode cX12_plan 115 = .ok (.ldc 192, 2) := by decide +kernel
theorem dX12_plan_117 : decode cX12_plan 117 = .ok (.if_icmp .lt 7, 3) := by decide +kernel
theorem dX12_plan_120 : decode cX12_plan 120 = .ok (.iconst (-1), 1) := by decide +kernel
theorem dX12_plan_121 : decode cX12_plan 121 = .ok (.goto 9, 3) := by decide +kernel
theorem dX12_plan_124 : decode cX12_plan 124 = .ok (.aload_n 0, 1) := by decide +kernel
theorem dX12_plan_125 : decode cX12_plan 125 = .ok (.getfield 84, 3) := by decide +kernel
theorem dX12_plan_128 : decode cX12_plan 128 = .ok (.iload_n 2, 1) := by decide +kernel
theorem dX12_plan_129 : decode cX12_plan 129 = .ok (.iaload, 1) := by decide +kernel
theorem dX12_plan_130 : decode cX12_plan 130 = .ok (.iastore, 1) := by decide +kernel
theorem dX12_plan_131 : decode cX12_plan 131 = .ok (.aload_n 0, 1) := by decide +kernel
theorem dX12_plan_132 : decode cX12_plan 132 = .ok (.aload_n 0, 1) := by decide +kernel
theorem dX12_plan_133 : decode cX12_plan 133 = .ok (.getfield 233, 3) := by decide +kernel
theorem dX12_plan_136 : decode cX12_plan 136 = .ok (.ifCond .eq 16, 3) := by decide +kernel
theorem dX12_plan_139 : decode cX12_plan 139 = .ok (.aload_n 0, 1) := by decide +kernel
theorem dX12_plan_140 : decode cX12_plan 140 = .ok (.getfield 105, 3) := by decide +kernel
theorem dX12_plan_143 : decode cX12_plan 143 = .ok (.iload_n 1, 1) := by decide +kernel
theorem dX12_plan_144 : decode cX12_plan 144 = .ok (.iaload, 1) := by decide +kernel
theorem dX12_plan_145 : decode cX12_plan 145 = .ok (.ifCond .lt 7, 3) := by decide +kernel
theorem dX12_plan_148 : decode cX12_plan 148 = .ok (.iconst 1, 1) := by decide +kernel
theorem dX12_plan_149 : decode cX12_plan 149 = .ok (.goto 4, 3) := by decide +kernel
theorem dX12_plan_152 : decode cX12_plan 152 = .ok (.iconst 0, 1) := by decide +kernel
theorem dX12_plan_153 : decode cX12_plan 153 = .ok (.putfield 233, 3) := by decide +kernel
theorem dX12_plan_156 : decode cX12_plan 156 = .ok (.iload_n 2, 1) := by decide +kernel
theorem dX12_plan_157 : decode cX12_plan 157 = .ok (.istore_n 3, 1) := by decide +kernel
theorem dX12_plan_158 : decode cX12_plan 158 = .ok (.iload_n 3, 1) := by decide +kernel
theorem dX12_plan_159 : decode cX12_plan 159 = .ok (.ifCond .eq 81, 3) := by decide +kernel
theorem dX12_plan_162 : decode cX12_plan 162 = .ok (.aload_n 0, 1) := by decide +kernel
theorem dX12_plan_163 : decode cX12_plan 163 = .ok (.getfield 105, 3) := by decide +kernel
theorem dX12_plan_166 : decode cX12_plan 166 = .ok (.iload_n 1, 1) := by decide +kernel
theorem dX12_plan_167 : decode cX12_plan 167 = .ok (.iaload, 1) := by decide +kernel
theorem dX12_plan_168 : decode cX12_plan 168 = .ok (.ifCond .lt 72, 3) := by decide +kernel
theorem dX12_plan_171 : decode cX12_plan 171 = .ok (.aload_n 0, 1) := by decide +kernel
theorem dX12_plan_172 : decode cX12_plan 172 = .ok (.getfield 93, 3) := by decide +kernel
theorem dX12_plan_175 : decode cX12_plan 175 = .ok (.aload_n 0, 1) := by decide +kernel
theorem dX12_plan_176 : decode cX12_plan 176 = .ok (.getfield 230, 3) := by decide +kernel
theorem dX12_plan_179 : decode cX12_plan 179 = .ok (.aload_n 0, 1) := by decide +kernel
theorem dX12_plan_180 : decode cX12_plan 180 = .ok (.getfield 90, 3) := by decide +kernel
theorem dX12_plan_183 : decode cX12_plan 183 = .ok (.iload_n 3, 1) := by decide +kernel
theorem dX12_plan_184 : decode cX12_plan 184 = .ok (.iaload, 1) := by decide +kernel
theorem dX12_plan_185 : decode cX12_plan 185 = .ok (.iastore, 1) := by decide +kernel
theorem dX12_plan_186 : decode cX12_plan 186 = .ok (.aload_n 0, 1) := by decide +kernel
theorem dX12_plan_187 : decode cX12_plan 187 = .ok (.getfield 96, 3) := by decide +kernel
theorem dX12_plan_190 : decode cX12_plan 190 = .ok (.aload_n 0, 1) := by decide +kernel
theorem dX12_plan_191 : decode cX12_plan 191 = .ok (.getfield 230, 3) := by decide +kernel
theorem dX12_plan_194 : decode cX12_plan 194 = .ok (.iload_n 1, 1) := by decide +kernel
theorem dX12_plan_195 : decode cX12_plan 195 = .ok (.iastore, 1) := by decide +kernel
theorem dX12_plan_196 : decode cX12_plan 196 = .ok (.aload_n 0, 1) := by decide +kernel
theorem dX12_plan_197 : decode cX12_plan 197 = .ok (.getfield 99, 3) := by decide +kernel
theorem dX12_plan_200 : decode cX12_plan 200 = .ok (.aload_n 0, 1) := by decide +kernel
theorem dX12_plan_201 : decode cX12_plan 201 = .ok (.getfield 230, 3) := by decide +kernel
theorem dX12_plan_204 : decode cX12_plan 204 = .ok (.aload_n 0, 1) := by decide +kernel
theorem dX12_plan_205 : decode cX12_plan 205 = .ok (.getfield 81, 3) := by decide +kernel
theorem dX12_plan_208 : decode cX12_plan 208 = .ok (.aload_n 0, 1) := by decide +kernel
theorem dX12_plan_209 : decode cX12_plan 209 = .ok (.getfield 90, 3) := by decide +kernel
theorem dX12_plan_212 : decode cX12_plan 212 = .ok (.iload_n 3, 1) := by decide +kernel
theorem dX12_plan_213 : decode cX12_plan 213 = .ok (.iaload, 1) := by decide +kernel
theorem dX12_plan_214 : decode cX12_plan 214 = .ok (.iaload, 1) := by decide +kernel
theorem dX12_plan_215 : decode cX12_plan 215 = .ok (.iastore, 1) := by decide +kernel
theorem dX12_plan_216 : decode cX12_plan 216 = .ok (.aload_n 0, 1) := by decide +kernel
theorem dX12_plan_217 : decode cX12_plan 217 = .ok (.dup, 1) := by decide +kernel
theorem dX12_plan_218 : decode cX12_plan 218 = .ok (.getfield 230, 3) := by decide +kernel
theorem dX12_plan_221 : decode cX12_plan 221 = .ok (.iconst 1, 1) := by decide +kernel
theorem dX12_plan_222 : decode cX12_plan 222 = .ok (.iadd, 1) := by decide +kernel
theorem dX12_plan_223 : decode cX12_plan 223 = .ok (.putfield 230, 3) := by decide +kernel
theorem dX12_plan_226 : decode cX12_plan 226 = .ok (.iload_n 3, 1) := by decide +kernel
theorem dX12_plan_227 : decode cX12_plan 227 = .ok (.aload_n 0, 1) := by decide +kernel
theorem dX12_plan_228 : decode cX12_plan 228 = .ok (.getfield 90, 3) := by decide +kernel
theorem dX12_plan_231 : decode cX12_plan 231 = .ok (.iload_n 3, 1) := by decide +kernel
theorem dX12_plan_232 : decode cX12_plan 232 = .ok (.iaload, 1) := by decide +kernel
theorem dX12_plan_233 : decode cX12_plan 233 = .ok (.iconst (-1), 1) := by decide +kernel
theorem dX12_plan_234 : decode cX12_plan 234 = .ok (.ixor, 1) := by decide +kernel
theorem dX12_plan_235 : decode cX12_plan 235 = .ok (.iand, 1) := by decide +kernel
theorem dX12_plan_236 : decode cX12_plan 236 = .ok (.istore_n 3, 1) := by decide +kernel
theorem dX12_plan_237 : decode cX12_plan 237 = .ok (.goto (-79), 3) := by decide +kernel
theorem dX12_plan_240 : decode cX12_plan 240 = .ok (.iinc 1 1, 3) := by decide +kernel
theorem dX12_plan_243 : decode cX12_plan 243 = .ok (.goto (-199), 3) := by decide +kernel
theorem dX12_plan_246 : decode cX12_plan 246 = .ok (.return_, 1) := by decide +kernel
theorem dX12_nextStop_0 : decode cX12_nextStop 0 = .ok (.iconst (-1), 1) := by decide +kernel
theorem dX12_nextStop_1 : decode cX12_nextStop 1 = .ok (.istore_n 3, 1) := by decide +kernel
theorem dX12_nextStop_2 : decode cX12_nextStop 2 = .ok (.ldc 192, 2) := by decide +kernel
theorem dX12_nextStop_4 : decode cX12_nextStop 4 = .ok (.istore 4, 2) := by decide +kernel
theorem dX12_nextStop_6 : decode cX12_nextStop 6 = .ok (.iconst 0, 1) := by decide +kernel
theorem dX12_nextStop_7 : decode cX12_nextStop 7 = .ok (.istore 5, 2) := by decide +kernel
theorem dX12_nextStop_9 : decode cX12_nextStop 9 = .ok (.iload 5, 2) := by decide +kernel
theorem dX12_nextStop_11 : decode cX12_nextStop 11 = .ok (.aload_n 0, 1) := by decide +kernel
theorem dX12_nextStop_12 : decode cX12_nextStop 12 = .ok (.getfield 166, 3) := by decide +kernel
theorem dX12_nextStop_15 : decode cX12_nextStop 15 = .ok (.if_icmp .ge 87, 3) := by decide +kernel
theorem dX12_nextStop_18 : decode cX12_nextStop 18 = .ok (.iload_n 1, 1) := by decide +kernel
theorem dX12_nextStop_19 : decode cX12_nextStop 19 = .ok (.iload 5, 2) := by decide +kernel
theorem dX12_nextStop_21 : decode cX12_nextStop 21 = .ok (.invokestatic 206, 3) := by decide +kernel
theorem dX12_nextStop_24 : decode cX12_nextStop 24 = .ok (.ifCond .ne 6, 3) := by decide +kernel
theorem dX12_nextStop_27 : decode cX12_nextStop 27 = .ok (.goto 69, 3) := by decide +kernel
theorem dX12_nextStop_30 : decode cX12_nextStop 30 = .ok (.iload_n 2, 1) := by decide +kernel
theorem dX12_nextStop_31 : decode cX12_nextStop 31 = .ok (.ifCond .ge 7, 3) := by decide +kernel
theorem dX12_nextStop_34 : decode cX12_nextStop 34 = .ok (.iconst 0, 1) := by decide +kernel
theorem dX12_nextStop_35 : decode cX12_nextStop 35 = .ok (.goto 25, 3) := by decide +kernel
theorem dX12_nextStop_38 : decode cX12_nextStop 38 = .ok (.aload_n 0, 1) := by decide +kernel
theorem dX12_nextStop_39 : decode cX12_nextStop 39 = .ok (.getfield 75, 3) := by decide +kernel
theorem dX12_nextStop_42 : decode cX12_nextStop 42 = .ok (.bipush 8, 2) := by decide +kernel
theorem dX12_nextStop_44 : decode cX12_nextStop 44 = .ok (.aload_n 0, 1) := by decide +kernel
theorem dX12_nextStop_45 : decode cX12_nextStop 45 = .ok (.getfield 45, 3) := by decide +kernel
theorem dX12_nextStop_48 : decode cX12_nextStop 48 = .ok (.iload_n 2, 1) := by decide +kernel
theorem dX12_nextStop_49 : decode cX12_nextStop 49 = .ok (.iaload, 1) := by decide +kernel
theorem dX12_nextStop_50 : decode cX12_nextStop 50 = .ok (.imul, 1) := by decide +kernel
theorem dX12_nextStop_51 : decode cX12_nextStop 51 = .ok (.aload_n 0, 1) := by decide +kernel
theorem dX12_nextStop_52 : decode cX12_nextStop 52 = .ok (.getfield 45, 3) := by decide +kernel
theorem dX12_nextStop_55 : decode cX12_nextStop 55 = .ok (.iload 5, 2) := by decide +kernel
theorem dX12_nextStop_57 : decode cX12_nextStop 57 = .ok (.iaload, 1) := by decide +kernel
theorem dX12_nextStop_58 : decode cX12_nextStop 58 = .ok (.iadd, 1) := by decide +kernel
theorem dX12_nextStop_59 : decode cX12_nextStop 59 = .ok (.iaload, 1) := by decide +kernel
theorem dX12_nextStop_60 : decode cX12_nextStop 60 = .ok (.aload_n 0, 1) := by decide +kernel
theorem dX12_nextStop_61 : decode cX12_nextStop 61 = .ok (.getfield 78, 3) := by decide +kernel
theorem dX12_nextStop_64 : decode cX12_nextStop 64 = .ok (.bipush 10, 2) := by decide +kernel
theorem dX12_nextStop_66 : decode cX12_nextStop 66 = .ok (.iload_n 1, 1) := by decide +kernel
theorem dX12_nextStop_67 : decode cX12_nextStop 67 = .ok (.imul, 1) := by decide +kernel
theorem dX12_nextStop_68 : decode cX12_nextStop 68 = .ok (.iload 5, 2) := by decide +kernel
theorem dX12_nextStop_70 : decode cX12_nextStop 70 = .ok (.iadd, 1) := by decide +kernel
theorem dX12_nextStop_71 : decode cX12_nextStop 71 = .ok (.iaload, 1) := by decide +kernel
theorem dX12_nextStop_72 : decode cX12_nextStop 72 = .ok (.iadd, 1) := by decide +kernel
theorem dX12_nextStop_73 : decode cX12_nextStop 73 = .ok (.istore 6, 2) := by decide +kernel
theorem dX12_nextStop_75 : decode cX12_nextStop 75 = .ok (.iload_n 3, 1) := by decide +kernel
theorem dX12_nextStop_76 : decode cX12_nextStop 76 = .ok (.ifCond .lt 13, 3) := by decide +kernel
theorem dX12_nextStop_79 : decode cX12_nextStop 79 = .ok (.iload 6, 2) := by decide +kernel
theorem dX12_nextStop_81 : decode cX12_nextStop 81 = .ok (.iload 4, 2) := by decide +kernel
theorem dX12_nextStop_83 : decode cX12_nextStop 83 = .ok (.if_icmp .lt 6, 3) := by decide +kernel
theorem dX12_nextStop_86 : decode cX12_nextStop 86 = .ok (.goto 10, 3) := by decide +kernel
theorem dX12_nextStop_89 : decode cX12_nextStop 89 = .ok (.iload 5, 2) := by decide +kernel
theorem dX12_nextStop_91 : decode cX12_nextStop 91 = .ok (.istore_n 3, 1) := by decide +kernel
theorem dX12_nextStop_92 : decode cX12_nextStop 92 = .ok (.iload 6, 2) := by decide +kernel
theorem dX12_nextStop_94 : decode cX12_nextStop 94 = .ok (.istore 4, 2) := by decide +kernel
theorem dX12_nextStop_96 : decode cX12_nextStop 96 = .ok (.iinc 5 1, 3) := by decide +kernel
theorem dX12_nextStop_99 : decode cX12_nextStop 99 = .ok (.goto (-90), 3) := by decide +kernel
theorem dX12_nextStop_102 : decode cX12_nextStop 102 = .ok (.iload_n 3, 1) := by decide +kernel
theorem dX12_nextStop_103 : decode cX12_nextStop 103 = .ok (.ireturn, 1) := by decide +kernel
theorem dX12_routes_0 : decode cX12_routes 0 = .ok (.aload_n 0, 1) := by decide +kernel
theorem dX12_routes_1 : decode cX12_routes 1 = .ok (.iload_n 1, 1) := by decide +kernel
theorem dX12_routes_2 : decode cX12_routes 2 = .ok (.invokevirtual 198, 3) := by decide +kernel
theorem dX12_routes_5 : decode cX12_routes 5 = .ok (.ifCond .ne 10, 3) := by decide +kernel
theorem dX12_routes_8 : decode cX12_routes 8 = .ok (.aload_n 0, 1) := by decide +kernel
theorem dX12_routes_9 : decode cX12_routes 9 = .ok (.ldc 185, 2) := by decide +kernel
theorem dX12_routes_11 : decode cX12_routes 11 = .ok (.invokevirtual 177, 3) := by decide +kernel
theorem dX12_routes_14 : decode cX12_routes 14 = .ok (.ireturn, 1) := by decide +kernel
theorem dX12_routes_15 : decode cX12_routes 15 = .ok (.aload_n 0, 1) := by decide +kernel
theorem dX12_routes_16 : decode cX12_routes 16 = .ok (.invokevirtual 243, 3) := by decide +kernel
theorem dX12_routes_19 : decode cX12_routes 19 = .ok (.aload_n 0, 1) := by decide +kernel
theorem dX12_routes_20 : decode cX12_routes 20 = .ok (.getfield 105, 3) := by decide +kernel
theorem dX12_routes_23 : decode cX12_routes 23 = .ok (.iload_n 1, 1) := by decide +kernel
theorem dX12_routes_24 : decode cX12_routes 24 = .ok (.iaload, 1) := by decide +kernel
theorem dX12_routes_25 : decode cX12_routes 25 = .ok (.ifCond .ge 12, 3) := by decide +kernel
theorem dX12_routes_28 : decode cX12_routes 28 = .ok (.aload_n 0, 1) := by decide +kernel
theorem dX12_routes_29 : decode cX12_routes 29 = .ok (.ldc 197, 2) := by decide +kernel
theorem dX12_routes_31 : decode cX12_routes 31 = .ok (.invokevirtual 177, 3) := by decide +kernel
theorem dX12_routes_34 : decode cX12_routes 34 = .ok (.goto 9, 3) := by decide +kernel
theorem dX12_routes_37 : decode cX12_routes 37 = .ok (.aload_n 0, 1) := by decide +kernel
theorem dX12_routes_38 : decode cX12_routes 38 = .ok (.getfield 105, 3) := by decide +kernel
theorem dX12_routes_41 : decode cX12_routes 41 = .ok (.iload_n 1, 1) := by decide +kernel
theorem dX12_routes_42 : decode cX12_routes 42 = .ok (.iaload, 1) := by decide +kernel
theorem dX12_routes_43 : decode cX12_routes 43 = .ok (.ireturn, 1) := by decide +kernel
theorem dX12_stopOf_0 : decode cX12_stopOf 0 = .ok (.aload_n 0, 1) := by decide +kernel
theorem dX12_stopOf_1 : decode cX12_stopOf 1 = .ok (.getfield 93, 3) := by decide +kernel
theorem dX12_stopOf_4 : decode cX12_stopOf 4 = .ok (.iload_n 1, 1) := by decide +kernel
theorem dX12_stopOf_5 : decode cX12_stopOf 5 = .ok (.iaload, 1) := by decide +kernel
theorem dX12_stopOf_6 : decode cX12_stopOf 6 = .ok (.istore_n 3, 1) := by decide +kernel
theorem dX12_stopOf_7 : decode cX12_stopOf 7 = .ok (.aload_n 0, 1) := by decide +kernel
theorem dX12_stopOf_8 : decode cX12_stopOf 8 = .ok (.iload_n 3, 1) := by decide +kernel
theorem dX12_stopOf_9 : decode cX12_stopOf 9 = .ok (.iconst (-1), 1) := by decide +kernel
theorem dX12_stopOf_10 : decode cX12_stopOf 10 = .ok (.invokevirtual 246, 3) := by decide +kernel
theorem dX12_stopOf_13 : decode cX12_stopOf 13 = .ok (.istore 4, 2) := by decide +kernel
theorem dX12_stopOf_15 : decode cX12_stopOf 15 = .ok (.iconst 0, 1) := by decide +kernel
theorem dX12_stopOf_16 : decode cX12_stopOf 16 = .ok (.istore 5, 2) := by decide +kernel
theorem dX12_stopOf_18 : decode cX12_stopOf 18 = .ok (.iload 5, 2) := by decide +kernel
theorem dX12_stopOf_20 : decode cX12_stopOf 20 = .ok (.iload_n 2, 1) := by decide +kernel
theorem dX12_stopOf_21 : decode cX12_stopOf 21 = .ok (.if_icmp .ge 32, 3) := by decide +kernel
theorem dX12_stopOf_24 : decode cX12_stopOf 24 = .ok (.iload 4, 2) := by decide +kernel
theorem dX12_stopOf_26 : decode cX12_stopOf 26 = .ok (.ifCond .lt 27, 3) := by decide +kernel
theorem dX12_stopOf_29 : decode cX12_stopOf 29 = .ok (.iload_n 3, 1) := by decide +kernel
theorem dX12_stopOf_30 : decode cX12_stopOf 30 = .ok (.iconst 1, 1) := by decide +kernel
theorem dX12_stopOf_31 : decode cX12_stopOf 31 = .ok (.iload 4, 2) := by decide +kernel
theorem dX12_stopOf_33 : decode cX12_stopOf 33 = .ok (.ishl, 1) := by decide +kernel
theorem dX12_stopOf_34 : decode cX12_stopOf 34 = .ok (.iconst (-1), 1) := by decide +kernel
theorem dX12_stopOf_35 : decode cX12_stopOf 35 = .ok (.ixor, 1) := by decide +kernel
theorem dX12_stopOf_36 : decode cX12_stopOf 36 = .ok (.iand, 1) := by decide +kernel
theorem dX12_stopOf_37 : decode cX12_stopOf 37 = .ok (.istore_n 3, 1) := by decide +kernel
theorem dX12_stopOf_38 : decode cX12_stopOf 38 = .ok (.aload_n 0, 1) := by decide +kernel
theorem dX12_stopOf_39 : decode cX12_stopOf 39 = .ok (.iload_n 3, 1) := by decide +kernel
theorem dX12_stopOf_40 : decode cX12_stopOf 40 = .ok (.iload 4, 2) := by decide +kernel
theorem dX12_stopOf_42 : decode cX12_stopOf 42 = .ok (.invokevirtual 246, 3) := by decide +kernel
theorem dX12_stopOf_45 : decode cX12_stopOf 45 = .ok (.istore 4, 2) := by decide +kernel
theorem dX12_stopOf_47 : decode cX12_stopOf 47 = .ok (.iinc 5 1, 3) := by decide +kernel
theorem dX12_stopOf_50 : decode cX12_stopOf 50 = .ok (.goto (-32), 3) := by decide +kernel
theorem dX12_stopOf_53 : decode cX12_stopOf 53 = .ok (.iload 4, 2) := by decide +kernel
theorem dX12_stopOf_55 : decode cX12_stopOf 55 = .ok (.ireturn, 1) := by decide +kernel
theorem dX12_route_0 : decode cX12_route 0 = .ok (.aload_n 0, 1) := by decide +kernel
theorem dX12_route_1 : decode cX12_route 1 = .ok (.iload_n 1, 1) := by decide +kernel
theorem dX12_route_2 : decode cX12_route 2 = .ok (.invokevirtual 198, 3) := by decide +kernel
theorem dX12_route_5 : decode cX12_route 5 = .ok (.ifCond .eq 12, 3) := by decide +kernel
theorem dX12_route_8 : decode cX12_route 8 = .ok (.iload_n 2, 1) := by decide +kernel
theorem dX12_route_9 : decode cX12_route 9 = .ok (.ifCond .lt 8, 3) := by decide +kernel
theorem dX12_route_12 : decode cX12_route 12 = .ok (.iload_n 3, 1) := by decide +kernel
theorem dX12_route_13 : decode cX12_route 13 = .ok (.iconst (-1), 1) := by decide +kernel
theorem dX12_route_14 : decode cX12_route 14 = .ok (.if_icmp .ge 10, 3) := by decide +kernel
theorem dX12_route_17 : decode cX12_route 17 = .ok (.aload_n 0, 1) := by decide +kernel
theorem dX12_route_18 : decode cX12_route 18 = .ok (.ldc 185, 2) := by decide +kernel
theorem dX12_route_20 : decode cX12_route 20 = .ok (.invokevirtual 177, 3) := by decide +kernel
theorem dX12_route_23 : decode cX12_route 23 = .ok (.ireturn, 1) := by decide +kernel
theorem dX12_route_24 : decode cX12_route 24 = .ok (.aload_n 0, 1) := by decide +kernel
theorem dX12_route_25 : decode cX12_route 25 = .ok (.invokevirtual 243, 3) := by decide +kernel
theorem dX12_route_28 : decode cX12_route 28 = .ok (.aload_n 0, 1) := by decide +kernel
theorem dX12_route_29 : decode cX12_route 29 = .ok (.getfield 105, 3) := by decide +kernel
theorem dX12_route_32 : decode cX12_route 32 = .ok (.iload_n 1, 1) := by decide +kernel
theorem dX12_route_33 : decode cX12_route 33 = .ok (.iaload, 1) := by decide +kernel
theorem dX12_route_34 : decode cX12_route 34 = .ok (.ifCond .lt 13, 3) := by decide +kernel
theorem dX12_route_37 : decode cX12_route 37 = .ok (.iload_n 2, 1) := by decide +kernel
theorem dX12_route_38 : decode cX12_route 38 = .ok (.aload_n 0, 1) := by decide +kernel
theorem dX12_route_39 : decode cX12_route 39 = .ok (.getfield 105, 3) := by decide +kernel
theorem dX12_route_42 : decode cX12_route 42 = .ok (.iload_n 1, 1) := by decide +kernel
theorem dX12_route_43 : decode cX12_route 43 = .ok (.iaload, 1) := by decide +kernel
theorem dX12_route_44 : decode cX12_route 44 = .ok (.if_icmp .lt 10, 3) := by decide +kernel
theorem dX12_route_47 : decode cX12_route 47 = .ok (.aload_n 0, 1) := by decide +kernel
theorem dX12_route_48 : decode cX12_route 48 = .ok (.ldc 197, 2) := by decide +kernel
theorem dX12_route_50 : decode cX12_route 50 = .ok (.invokevirtual 177, 3) := by decide +kernel
theorem dX12_route_53 : decode cX12_route 53 = .ok (.ireturn, 1) := by decide +kernel
theorem dX12_route_54 : decode cX12_route 54 = .ok (.aload_n 0, 1) := by decide +kernel
theorem dX12_route_55 : decode cX12_route 55 = .ok (.getfield 102, 3) := by decide +kernel
theorem dX12_route_58 : decode cX12_route 58 = .ok (.iload_n 1, 1) := by decide +kernel
theorem dX12_route_59 : decode cX12_route 59 = .ok (.iaload, 1) := by decide +kernel
theorem dX12_route_60 : decode cX12_route 60 = .ok (.iload_n 2, 1) := by decide +kernel
theorem dX12_route_61 : decode cX12_route 61 = .ok (.iadd, 1) := by decide +kernel
theorem dX12_route_62 : decode cX12_route 62 = .ok (.istore 4, 2) := by decide +kernel
theorem dX12_route_64 : decode cX12_route 64 = .ok (.iload_n 3, 1) := by decide +kernel
theorem dX12_route_65 : decode cX12_route 65 = .ok (.ifCond .ge 13, 3) := by decide +kernel
theorem dX12_route_68 : decode cX12_route 68 = .ok (.aload_n 0, 1) := by decide +kernel
theorem dX12_route_69 : decode cX12_route 69 = .ok (.getfield 99, 3) := by decide +kernel
theorem dX12_route_72 : decode cX12_route 72 = .ok (.iload 4, 2) := by decide +kernel
theorem dX12_route_74 : decode cX12_route 74 = .ok (.iaload, 1) := by decide +kernel
theorem dX12_route_75 : decode cX12_route 75 = .ok (.goto 21, 3) := by decide +kernel
theorem dX12_route_78 : decode cX12_route 78 = .ok (.aload_n 0, 1) := by decide +kernel
theorem dX12_route_79 : decode cX12_route 79 = .ok (.iload 4, 2) := by decide +kernel
theorem dX12_route_81 : decode cX12_route 81 = .ok (.iload_n 3, 1) := by decide +kernel
theorem dX12_route_82 : decode cX12_route 82 = .ok (.bipush 10, 2) := by decide +kernel
theorem dX12_route_84 : decode cX12_route 84 = .ok (.if_icmp .le 8, 3) := by decide +kernel
theorem dX12_route_87 : decode cX12_route 87 = .ok (.bipush 10, 2) := by decide +kernel
theorem dX12_route_89 : decode cX12_route 89 = .ok (.goto 4, 3) := by decide +kernel
theorem dX12_route_92 : decode cX12_route 92 = .ok (.iload_n 3, 1) := by decide +kernel
theorem dX12_route_93 : decode cX12_route 93 = .ok (.invokevirtual 250, 3) := by decide +kernel
theorem dX12_route_96 : decode cX12_route 96 = .ok (.ireturn, 1) := by decide +kernel
theorem dX12_rideOf_0 : decode cX12_rideOf 0 = .ok (.iconst 0, 1) := by decide +kernel
theorem dX12_rideOf_1 : decode cX12_rideOf 1 = .ok (.istore_n 2, 1) := by decide +kernel
theorem dX12_rideOf_2 : decode cX12_rideOf 2 = .ok (.iload_n 2, 1) := by decide +kernel
theorem dX12_rideOf_3 : decode cX12_rideOf 3 = .ok (.aload_n 0, 1) := by decide +kernel
theorem dX12_rideOf_4 : decode cX12_rideOf 4 = .ok (.getfield 230, 3) := by decide +kernel
theorem dX12_rideOf_7 : decode cX12_rideOf 7 = .ok (.if_icmp .ge 74, 3) := by decide +kernel
theorem dX12_rideOf_10 : decode cX12_rideOf 10 = .ok (.aload_n 0, 1) := by decide +kernel
theorem dX12_rideOf_11 : decode cX12_rideOf 11 = .ok (.getfield 93, 3) := by decide +kernel
theorem dX12_rideOf_14 : decode cX12_rideOf 14 = .ok (.iload_n 2, 1) := by decide +kernel
theorem dX12_rideOf_15 : decode cX12_rideOf 15 = .ok (.iaload, 1) := by decide +kernel
theorem dX12_rideOf_16 : decode cX12_rideOf 16 = .ok (.istore_n 3, 1) := by decide +kernel
theorem dX12_rideOf_17 : decode cX12_rideOf 17 = .ok (.iload_n 3, 1) := by decide +kernel
theorem dX12_rideOf_18 : decode cX12_rideOf 18 = .ok (.iload_n 1, 1) := by decide +kernel
theorem dX12_rideOf_19 : decode cX12_rideOf 19 = .ok (.invokestatic 206, 3) := by decide +kernel
theorem dX12_rideOf_22 : decode cX12_rideOf 22 = .ok (.ifCond .ne 6, 3) := by decide +kernel
theorem dX12_rideOf_25 : decode cX12_rideOf 25 = .ok (.goto 50, 3) := by decide +kernel
theorem dX12_rideOf_28 : decode cX12_rideOf 28 = .ok (.aload_n 0, 1) := by decide +kernel
theorem dX12_rideOf_29 : decode cX12_rideOf 29 = .ok (.iload_n 3, 1) := by decide +kernel
theorem dX12_rideOf_30 : decode cX12_rideOf 30 = .ok (.iconst (-1), 1) := by decide +kernel
theorem dX12_rideOf_31 : decode cX12_rideOf 31 = .ok (.invokevirtual 246, 3) := by decide +kernel
theorem dX12_rideOf_34 : decode cX12_rideOf 34 = .ok (.istore 4, 2) := by decide +kernel
theorem dX12_rideOf_36 : decode cX12_rideOf 36 = .ok (.iload 4, 2) := by decide +kernel
theorem dX12_rideOf_38 : decode cX12_rideOf 38 = .ok (.iload_n 1, 1) := by decide +kernel
theorem dX12_rideOf_39 : decode cX12_rideOf 39 = .ok (.if_icmp .eq 24, 3) := by decide +kernel
theorem dX12_rideOf_42 : decode cX12_rideOf 42 = .ok (.iload_n 3, 1) := by decide +kernel
theorem dX12_rideOf_43 : decode cX12_rideOf 43 = .ok (.iconst 1, 1) := by decide +kernel
theorem dX12_rideOf_44 : decode cX12_rideOf 44 = .ok (.iload 4, 2) := by decide +kernel
theorem dX12_rideOf_46 : decode cX12_rideOf 46 = .ok (.ishl, 1) := by decide +kernel
theorem dX12_rideOf_47 : decode cX12_rideOf 47 = .ok (.iconst (-1), 1) := by decide +kernel
theorem dX12_rideOf_48 : decode cX12_rideOf 48 = .ok (.ixor, 1) := by decide +kernel
theorem dX12_rideOf_49 : decode cX12_rideOf 49 = .ok (.iand, 1) := by decide +kernel
theorem dX12_rideOf_50 : decode cX12_rideOf 50 = .ok (.istore_n 3, 1) := by decide +kernel
theorem dX12_rideOf_51 : decode cX12_rideOf 51 = .ok (.aload_n 0, 1) := by decide +kernel
theorem dX12_rideOf_52 : decode cX12_rideOf 52 = .ok (.iload_n 3, 1) := by decide +kernel
theorem dX12_rideOf_53 : decode cX12_rideOf 53 = .ok (.iload 4, 2) := by decide +kernel
theorem dX12_rideOf_55 : decode cX12_rideOf 55 = .ok (.invokevirtual 246, 3) := by decide +kernel
theorem dX12_rideOf_58 : decode cX12_rideOf 58 = .ok (.istore 4, 2) := by decide +kernel
theorem dX12_rideOf_60 : decode cX12_rideOf 60 = .ok (.goto (-24), 3) := by decide +kernel
theorem dX12_rideOf_63 : decode cX12_rideOf 63 = .ok (.aload_n 0, 1) := by decide +kernel
theorem dX12_rideOf_64 : decode cX12_rideOf 64 = .ok (.getfield 78, 3) := by decide +kernel
theorem dX12_rideOf_67 : decode cX12_rideOf 67 = .ok (.bipush 10, 2) := by decide +kernel
theorem dX12_rideOf_69 : decode cX12_rideOf 69 = .ok (.iload_n 3, 1) := by decide +kernel
theorem dX12_rideOf_70 : decode cX12_rideOf 70 = .ok (.imul, 1) := by decide +kernel
theorem dX12_rideOf_71 : decode cX12_rideOf 71 = .ok (.iload_n 1, 1) := by decide +kernel
theorem dX12_rideOf_72 : decode cX12_rideOf 72 = .ok (.iadd, 1) := by decide +kernel
theorem dX12_rideOf_73 : decode cX12_rideOf 73 = .ok (.iaload, 1) := by decide +kernel
theorem dX12_rideOf_74 : decode cX12_rideOf 74 = .ok (.ireturn, 1) := by decide +kernel
theorem dX12_rideOf_75 : decode cX12_rideOf 75 = .ok (.iinc 2 1, 3) := by decide +kernel
theorem dX12_rideOf_78 : decode cX12_rideOf 78 = .ok (.goto (-76), 3) := by decide +kernel
theorem dX12_rideOf_81 : decode cX12_rideOf 81 = .ok (.iconst 0, 1) := by decide +kernel
theorem dX12_rideOf_82 : decode cX12_rideOf 82 = .ok (.ireturn, 1) := by decide +kernel
theorem dX12_ride_0 : decode cX12_ride 0 = .ok (.aload_n 0, 1) := by decide +kernel
theorem dX12_ride_1 : decode cX12_ride 1 = .ok (.iload_n 1, 1) := by decide +kernel
theorem dX12_ride_2 : decode cX12_ride 2 = .ok (.invokevirtual 221, 3) := by decide +kernel
theorem dX12_ride_5 : decode cX12_ride 5 = .ok (.ifCond .ne 10, 3) := by decide +kernel
theorem dX12_ride_8 : decode cX12_ride 8 = .ok (.aload_n 0, 1) := by decide +kernel
theorem dX12_ride_9 : decode cX12_ride 9 = .ok (.ldc 185, 2) := by decide +kernel
theorem dX12_ride_11 : decode cX12_ride 11 = .ok (.invokevirtual 177, 3) := by decide +kernel
theorem dX12_ride_14 : decode cX12_ride 14 = .ok (.ireturn, 1) := by decide +kernel
theorem dX12_ride_15 : decode cX12_ride 15 = .ok (.aload_n 0, 1) := by decide +kernel
theorem dX12_ride_16 : decode cX12_ride 16 = .ok (.invokevirtual 243, 3) := by decide +kernel
theorem dX12_ride_19 : decode cX12_ride 19 = .ok (.aload_n 0, 1) := by decide +kernel
theorem dX12_ride_20 : decode cX12_ride 20 = .ok (.getfield 105, 3) := by decide +kernel
theorem dX12_ride_23 : decode cX12_ride 23 = .ok (.aload_n 0, 1) := by decide +kernel
theorem dX12_ride_24 : decode cX12_ride 24 = .ok (.getfield 42, 3) := by decide +kernel
theorem dX12_ride_27 : decode cX12_ride 27 = .ok (.iload_n 1, 1) := by decide +kernel
theorem dX12_ride_28 : decode cX12_ride 28 = .ok (.iaload, 1) := by decide +kernel
theorem dX12_ride_29 : decode cX12_ride 29 = .ok (.iaload, 1) := by decide +kernel
theorem dX12_ride_30 : decode cX12_ride 30 = .ok (.ifCond .ge 12, 3) := by decide +kernel
theorem dX12_ride_33 : decode cX12_ride 33 = .ok (.aload_n 0, 1) := by decide +kernel
theorem dX12_ride_34 : decode cX12_ride 34 = .ok (.ldc 197, 2) := by decide +kernel
theorem dX12_ride_36 : decode cX12_ride 36 = .ok (.invokevirtual 177, 3) := by decide +kernel
theorem dX12_ride_39 : decode cX12_ride 39 = .ok (.goto 8, 3) := by decide +kernel
theorem dX12_ride_42 : decode cX12_ride 42 = .ok (.aload_n 0, 1) := by decide +kernel
theorem dX12_ride_43 : decode cX12_ride 43 = .ok (.iload_n 1, 1) := by decide +kernel
theorem dX12_ride_44 : decode cX12_ride 44 = .ok (.invokevirtual 253, 3) := by decide +kernel
theorem dX12_ride_47 : decode cX12_ride 47 = .ok (.ireturn, 1) := by decide +kernel
theorem dX12_all_0 : decode cX12_all 0 = .ok (.aload_n 0, 1) := by decide +kernel
theorem dX12_all_1 : decode cX12_all 1 = .ok (.invokevirtual 243, 3) := by decide +kernel
theorem dX12_all_4 : decode cX12_all 4 = .ok (.aload_n 0, 1) := by decide +kernel
theorem dX12_all_5 : decode cX12_all 5 = .ok (.getfield 233, 3) := by decide +kernel
theorem dX12_all_8 : decode cX12_all 8 = .ok (.ifCond .eq 10, 3) := by decide +kernel
theorem dX12_all_11 : decode cX12_all 11 = .ok (.aload_n 0, 1) := by decide +kernel
theorem dX12_all_12 : decode cX12_all 12 = .ok (.getfield 230, 3) := by decide +kernel
theorem dX12_all_15 : decode cX12_all 15 = .ok (.goto 9, 3) := by decide +kernel
theorem dX12_all_18 : decode cX12_all 18 = .ok (.aload_n 0, 1) := by decide +kernel
theorem dX12_all_19 : decode cX12_all 19 = .ok (.ldc 197, 2) := by decide +kernel
theorem dX12_all_21 : decode cX12_all 21 = .ok (.invokevirtual 177, 3) := by decide +kernel
theorem dX12_all_24 : decode cX12_all 24 = .ok (.ireturn, 1) := by decide +kernel
theorem dX12_rings_0 : decode cX12_rings 0 = .ok (.bipush 60, 2) := by decide +kernel
theorem dX12_rings_2 : decode cX12_rings 2 = .ok (.bipush 20, 2) := by decide +kernel
theorem dX12_rings_4 : decode cX12_rings 4 = .ok (.iload_n 0, 1) := by decide +kernel
theorem dX12_rings_5 : decode cX12_rings 5 = .ok (.imul, 1) := by decide +kernel
theorem dX12_rings_6 : decode cX12_rings 6 = .ok (.iadd, 1) := by decide +kernel
theorem dX12_rings_7 : decode cX12_rings 7 = .ok (.ireturn, 1) := by decide +kernel
theorem dX12_asTheyAre_0 : decode cX12_asTheyAre 0 = .ok (.iconst 0, 1) := by decide +kernel
theorem dX12_asTheyAre_1 : decode cX12_asTheyAre 1 = .ok (.istore_n 1, 1) := by decide +kernel
theorem dX12_asTheyAre_2 : decode cX12_asTheyAre 2 = .ok (.iload_n 1, 1) := by decide +kernel
theorem dX12_asTheyAre_3 : decode cX12_asTheyAre 3 = .ok (.iconst 4, 1) := by decide +kernel
theorem dX12_asTheyAre_4 : decode cX12_asTheyAre 4 = .ok (.if_icmp .ge 21, 3) := by decide +kernel
theorem dX12_asTheyAre_7 : decode cX12_asTheyAre 7 = .ok (.aload_n 0, 1) := by decide +kernel
theorem dX12_asTheyAre_8 : decode cX12_asTheyAre 8 = .ok (.getfield 108, 3) := by decide +kernel
theorem dX12_asTheyAre_11 : decode cX12_asTheyAre 11 = .ok (.iload_n 1, 1) := by decide +kernel
theorem dX12_asTheyAre_12 : decode cX12_asTheyAre 12 = .ok (.aload_n 0, 1) := by decide +kernel
theorem dX12_asTheyAre_13 : decode cX12_asTheyAre 13 = .ok (.getfield 36, 3) := by decide +kernel
theorem dX12_asTheyAre_16 : decode cX12_asTheyAre 16 = .ok (.iload_n 1, 1) := by decide +kernel
theorem dX12_asTheyAre_17 : decode cX12_asTheyAre 17 = .ok (.iaload, 1) := by decide +kernel
theorem dX12_asTheyAre_18 : decode cX12_asTheyAre 18 = .ok (.iastore, 1) := by decide +kernel
theorem dX12_asTheyAre_19 : decode cX12_asTheyAre 19 = .ok (.iinc 1 1, 3) := by decide +kernel
theorem dX12_asTheyAre_22 : decode cX12_asTheyAre 22 = .ok (.goto (-20), 3) := by decide +kernel
theorem dX12_asTheyAre_25 : decode cX12_asTheyAre 25 = .ok (.return_, 1) := by decide +kernel
theorem dX12_startOf_0 : decode cX12_startOf 0 = .ok (.aload_n 0, 1) := by decide +kernel
theorem dX12_startOf_1 : decode cX12_startOf 1 = .ok (.getfield 108, 3) := by decide +kernel
theorem dX12_startOf_4 : decode cX12_startOf 4 = .ok (.aload_n 0, 1) := by decide +kernel
theorem dX12_startOf_5 : decode cX12_startOf 5 = .ok (.getfield 96, 3) := by decide +kernel
theorem dX12_startOf_8 : decode cX12_startOf 8 = .ok (.iload_n 1, 1) := by decide +kernel
theorem dX12_startOf_9 : decode cX12_startOf 9 = .ok (.iaload, 1) := by decide +kernel
theorem dX12_startOf_10 : decode cX12_startOf 10 = .ok (.iaload, 1) := by decide +kernel
theorem dX12_startOf_11 : decode cX12_startOf 11 = .ok (.invokestatic 256, 3) := by decide +kernel
theorem dX12_startOf_14 : decode cX12_startOf 14 = .ok (.aload_n 0, 1) := by decide +kernel
theorem dX12_startOf_15 : decode cX12_startOf 15 = .ok (.getfield 99, 3) := by decide +kernel
theorem dX12_startOf_18 : decode cX12_startOf 18 = .ok (.iload_n 1, 1) := by decide +kernel
theorem dX12_startOf_19 : decode cX12_startOf 19 = .ok (.iaload, 1) := by decide +kernel
theorem dX12_startOf_20 : decode cX12_startOf 20 = .ok (.isub, 1) := by decide +kernel
theorem dX12_startOf_21 : decode cX12_startOf 21 = .ok (.ireturn, 1) := by decide +kernel
theorem dX12_canFollow_0 : decode cX12_canFollow 0 = .ok (.aload_n 0, 1) := by decide +kernel
theorem dX12_canFollow_1 : decode cX12_canFollow 1 = .ok (.getfield 75, 3) := by decide +kernel
theorem dX12_canFollow_4 : decode cX12_canFollow 4 = .ok (.bipush 8, 2) := by decide +kernel
theorem dX12_canFollow_6 : decode cX12_canFollow 6 = .ok (.aload_n 0, 1) := by decide +kernel
theorem dX12_canFollow_7 : decode cX12_canFollow 7 = .ok (.getfield 33, 3) := by decide +kernel
theorem dX12_canFollow_10 : decode cX12_canFollow 10 = .ok (.aload_n 0, 1) := by decide +kernel
theorem dX12_canFollow_11 : decode cX12_canFollow 11 = .ok (.getfield 96, 3) := by decide +kernel
theorem dX12_canFollow_14 : decode cX12_canFollow 14 = .ok (.iload_n 1, 1) := by decide +kernel
theorem dX12_canFollow_15 : decode cX12_canFollow 15 = .ok (.iaload, 1) := by decide +kernel
theorem dX12_canFollow_16 : decode cX12_canFollow 16 = .ok (.iaload, 1) := by decide +kernel
theorem dX12_canFollow_17 : decode cX12_canFollow 17 = .ok (.imul, 1) := by decide +kernel
theorem dX12_canFollow_18 : decode cX12_canFollow 18 = .ok (.aload_n 0, 1) := by decide +kernel
theorem dX12_canFollow_19 : decode cX12_canFollow 19 = .ok (.getfield 45, 3) := by decide +kernel
theorem dX12_canFollow_22 : decode cX12_canFollow 22 = .ok (.aload_n 0, 1) := by decide +kernel
theorem dX12_canFollow_23 : decode cX12_canFollow 23 = .ok (.iload_n 2, 1) := by decide +kernel
theorem dX12_canFollow_24 : decode cX12_canFollow 24 = .ok (.iconst 0, 1) := by decide +kernel
theorem dX12_canFollow_25 : decode cX12_canFollow 25 = .ok (.invokevirtual 250, 3) := by decide +kernel
theorem dX12_canFollow_28 : decode cX12_canFollow 28 = .ok (.iaload, 1) := by decide +kernel
theorem dX12_canFollow_29 : decode cX12_canFollow 29 = .ok (.iadd, 1) := by decide +kernel
theorem dX12_canFollow_30 : decode cX12_canFollow 30 = .ok (.iaload, 1) := by decide +kernel
theorem dX12_canFollow_31 : decode cX12_canFollow 31 = .ok (.istore_n 3, 1) := by decide +kernel
theorem dX12_canFollow_32 : decode cX12_canFollow 32 = .ok (.iload_n 3, 1) := by decide +kernel
theorem dX12_canFollow_33 : decode cX12_canFollow 33 = .ok (.ldc 192, 2) := by decide +kernel
theorem dX12_canFollow_35 : decode cX12_canFollow 35 = .ok (.if_icmp .ge 36, 3) := by decide +kernel
theorem dX12_canFollow_38 : decode cX12_canFollow 38 = .ok (.aload_n 0, 1) := by decide +kernel
theorem dX12_canFollow_39 : decode cX12_canFollow 39 = .ok (.getfield 108, 3) := by decide +kernel
theorem dX12_canFollow_42 : decode cX12_canFollow 42 = .ok (.aload_n 0, 1) := by decide +kernel
theorem dX12_canFollow_43 : decode cX12_canFollow 43 = .ok (.getfield 96, 3) := by decide +kernel
theorem dX12_canFollow_46 : decode cX12_canFollow 46 = .ok (.iload_n 1, 1) := by decide +kernel
theorem dX12_canFollow_47 : decode cX12_canFollow 47 = .ok (.iaload, 1) := by decide +kernel
theorem dX12_canFollow_48 : decode cX12_canFollow 48 = .ok (.iaload, 1) := by decide +kernel
theorem dX12_canFollow_49 : decode cX12_canFollow 49 = .ok (.invokestatic 256, 3) := by decide +kernel
theorem dX12_canFollow_52 : decode cX12_canFollow 52 = .ok (.iload_n 3, 1) := by decide +kernel
theorem dX12_canFollow_53 : decode cX12_canFollow 53 = .ok (.iadd, 1) := by decide +kernel
theorem dX12_canFollow_54 : decode cX12_canFollow 54 = .ok (.aload_n 0, 1) := by decide +kernel
theorem dX12_canFollow_55 : decode cX12_canFollow 55 = .ok (.getfield 224, 3) := by decide +kernel
theorem dX12_canFollow_58 : decode cX12_canFollow 58 = .ok (.iadd, 1) := by decide +kernel
theorem dX12_canFollow_59 : decode cX12_canFollow 59 = .ok (.aload_n 0, 1) := by decide +kernel
theorem dX12_canFollow_60 : decode cX12_canFollow 60 = .ok (.iload_n 2, 1) := by decide +kernel
theorem dX12_canFollow_61 : decode cX12_canFollow 61 = .ok (.invokevirtual 259, 3) := by decide +kernel
theorem dX12_canFollow_64 : decode cX12_canFollow 64 = .ok (.if_icmp .gt 7, 3) := by decide +kernel
theorem dX12_canFollow_67 : decode cX12_canFollow 67 = .ok (.iconst 1, 1) := by decide +kernel
theorem dX12_canFollow_68 : decode cX12_canFollow 68 = .ok (.goto 4, 3) := by decide +kernel
theorem dX12_canFollow_71 : decode cX12_canFollow 71 = .ok (.iconst 0, 1) := by decide +kernel
theorem dX12_canFollow_72 : decode cX12_canFollow 72 = .ok (.ireturn, 1) := by decide +kernel
theorem dX12_start_0 : decode cX12_start 0 = .ok (.iload_n 1, 1) := by decide +kernel
theorem dX12_start_1 : decode cX12_start 1 = .ok (.ifCond .ge 10, 3) := by decide +kernel
theorem dX12_start_4 : decode cX12_start 4 = .ok (.aload_n 0, 1) := by decide +kernel
theorem dX12_start_5 : decode cX12_start 5 = .ok (.ldc 185, 2) := by decide +kernel
theorem dX12_start_7 : decode cX12_start 7 = .ok (.invokevirtual 177, 3) := by decide +kernel
theorem dX12_start_10 : decode cX12_start 10 = .ok (.ireturn, 1) := by decide +kernel
theorem dX12_start_11 : decode cX12_start 11 = .ok (.aload_n 0, 1) := by decide +kernel
theorem dX12_start_12 : decode cX12_start 12 = .ok (.invokevirtual 243, 3) := by decide +kernel
theorem dX12_start_15 : decode cX12_start 15 = .ok (.aload_n 0, 1) := by decide +kernel
theorem dX12_start_16 : decode cX12_start 16 = .ok (.invokevirtual 262, 3) := by decide +kernel
theorem dX12_start_19 : decode cX12_start 19 = .ok (.aload_n 0, 1) := by decide +kernel
theorem dX12_start_20 : decode cX12_start 20 = .ok (.getfield 233, 3) := by decide +kernel
theorem dX12_start_23 : decode cX12_start 23 = .ok (.ifCond .eq 19, 3) := by decide +kernel
theorem dX12_start_26 : decode cX12_start 26 = .ok (.iload_n 1, 1) := by decide +kernel
theorem dX12_start_27 : decode cX12_start 27 = .ok (.aload_n 0, 1) := by decide +kernel
theorem dX12_start_28 : decode cX12_start 28 = .ok (.getfield 230, 3) := by decide +kernel
theorem dX12_start_31 : decode cX12_start 31 = .ok (.if_icmp .ge 11, 3) := by decide +kernel
theorem dX12_start_34 : decode cX12_start 34 = .ok (.aload_n 0, 1) := by decide +kernel
theorem dX12_start_35 : decode cX12_start 35 = .ok (.iload_n 1, 1) := by decide +kernel
theorem dX12_start_36 : decode cX12_start 36 = .ok (.invokevirtual 259, 3) := by decide +kernel
theorem dX12_start_39 : decode cX12_start 39 = .ok (.goto 9, 3) := by decide +kernel
theorem dX12_start_42 : decode cX12_start 42 = .ok (.aload_n 0, 1) := by decide +kernel
theorem dX12_start_43 : decode cX12_start 43 = .ok (.ldc 197, 2) := by decide +kernel
theorem dX12_start_45 : decode cX12_start 45 = .ok (.invokevirtual 177, 3) := by decide +kernel
theorem dX12_start_48 : decode cX12_start 48 = .ok (.ireturn, 1) := by decide +kernel
theorem dX12_follows_0 : decode cX12_follows 0 = .ok (.iload_n 1, 1) := by decide +kernel
theorem dX12_follows_1 : decode cX12_follows 1 = .ok (.ifCond .lt 12, 3) := by decide +kernel
theorem dX12_follows_4 : decode cX12_follows 4 = .ok (.iload_n 2, 1) := by decide +kernel
theorem dX12_follows_5 : decode cX12_follows 5 = .ok (.ifCond .lt 8, 3) := by decide +kernel
theorem dX12_follows_8 : decode cX12_follows 8 = .ok (.iload_n 1, 1) := by decide +kernel
theorem dX12_follows_9 : decode cX12_follows 9 = .ok (.iload_n 2, 1) := by decide +kernel
theorem dX12_follows_10 : decode cX12_follows 10 = .ok (.if_icmp .ne 10, 3) := by decide +kernel
theorem dX12_follows_13 : decode cX12_follows 13 = .ok (.aload_n 0, 1) := by decide +kernel
theorem dX12_follows_14 : decode cX12_follows 14 = .ok (.ldc 185, 2) := by decide +kernel
theorem dX12_follows_16 : decode cX12_follows 16 = .ok (.invokevirtual 177, 3) := by decide +kernel
theorem dX12_follows_19 : decode cX12_follows 19 = .ok (.ireturn, 1) := by decide +kernel
theorem dX12_follows_20 : decode cX12_follows 20 = .ok (.aload_n 0, 1) := by decide +kernel
theorem dX12_follows_21 : decode cX12_follows 21 = .ok (.invokevirtual 243, 3) := by decide +kernel
theorem dX12_follows_24 : decode cX12_follows 24 = .ok (.aload_n 0, 1) := by decide +kernel
theorem dX12_follows_25 : decode cX12_follows 25 = .ok (.invokevirtual 262, 3) := by decide +kernel
theorem dX12_follows_28 : decode cX12_follows 28 = .ok (.aload_n 0, 1) := by decide +kernel
theorem dX12_follows_29 : decode cX12_follows 29 = .ok (.getfield 233, 3) := by decide +kernel
theorem dX12_follows_32 : decode cX12_follows 32 = .ok (.ifCond .eq 19, 3) := by decide +kernel
theorem dX12_follows_35 : decode cX12_follows 35 = .ok (.iload_n 1, 1) := by decide +kernel
theorem dX12_follows_36 : decode cX12_follows 36 = .ok (.aload_n 0, 1) := by decide +kernel
theorem dX12_follows_37 : decode cX12_follows 37 = .ok (.getfield 230, 3) := by decide +kernel
theorem dX12_follows_40 : decode cX12_follows 40 = .ok (.if_icmp .ge 11, 3) := by decide +kernel
theorem dX12_follows_43 : decode cX12_follows 43 = .ok (.iload_n 2, 1) := by decide +kernel
theorem dX12_follows_44 : decode cX12_follows 44 = .ok (.aload_n 0, 1) := by decide +kernel
theorem dX12_follows_45 : decode cX12_follows 45 = .ok (.getfield 230, 3) := by decide +kernel
theorem dX12_follows_48 : decode cX12_follows 48 = .ok (.if_icmp .lt 10, 3) := by decide +kernel
theorem dX12_follows_51 : decode cX12_follows 51 = .ok (.aload_n 0, 1) := by decide +kernel
theorem dX12_follows_52 : decode cX12_follows 52 = .ok (.ldc 197, 2) := by decide +kernel
theorem dX12_follows_54 : decode cX12_follows 54 = .ok (.invokevirtual 177, 3) := by decide +kernel
theorem dX12_follows_57 : decode cX12_follows 57 = .ok (.ireturn, 1) := by decide +kernel
theorem dX12_follows_58 : decode cX12_follows 58 = .ok (.aload_n 0, 1) := by decide +kernel
theorem dX12_follows_59 : decode cX12_follows 59 = .ok (.iload_n 1, 1) := by decide +kernel
theorem dX12_follows_60 : decode cX12_follows 60 = .ok (.iload_n 2, 1) := by decide +kernel
theorem dX12_follows_61 : decode cX12_follows 61 = .ok (.invokevirtual 265, 3) := by decide +kernel
theorem dX12_follows_64 : decode cX12_follows 64 = .ok (.ifCond .eq 7, 3) := by decide +kernel
theorem dX12_follows_67 : decode cX12_follows 67 = .ok (.iconst 1, 1) := by decide +kernel
theorem dX12_follows_68 : decode cX12_follows 68 = .ok (.goto 4, 3) := by decide +kernel
theorem dX12_follows_71 : decode cX12_follows 71 = .ok (.iconst 0, 1) := by decide +kernel
theorem dX12_follows_72 : decode cX12_follows 72 = .ok (.ireturn, 1) := by decide +kernel
theorem dX12_findMay_0 : decode cX12_findMay 0 = .ok (.iconst 0, 1) := by decide +kernel
theorem dX12_findMay_1 : decode cX12_findMay 1 = .ok (.istore_n 1, 1) := by decide +kernel
theorem dX12_findMay_2 : decode cX12_findMay 2 = .ok (.iload_n 1, 1) := by decide +kernel
theorem dX12_findMay_3 : decode cX12_findMay 3 = .ok (.aload_n 0, 1) := by decide +kernel
theorem dX12_findMay_4 : decode cX12_findMay 4 = .ok (.getfield 230, 3) := by decide +kernel
theorem dX12_findMay_7 : decode cX12_findMay 7 = .ok (.if_icmp .ge 62, 3) := by decide +kernel
theorem dX12_findMay_10 : decode cX12_findMay 10 = .ok (.aload_n 0, 1) := by decide +kernel
theorem dX12_findMay_11 : decode cX12_findMay 11 = .ok (.getfield 111, 3) := by decide +kernel
theorem dX12_findMay_14 : decode cX12_findMay 14 = .ok (.iload_n 1, 1) := by decide +kernel
theorem dX12_findMay_15 : decode cX12_findMay 15 = .ok (.iconst 0, 1) := by decide +kernel
theorem dX12_findMay_16 : decode cX12_findMay 16 = .ok (.iastore, 1) := by decide +kernel
theorem dX12_findMay_17 : decode cX12_findMay 17 = .ok (.iconst 0, 1) := by decide +kernel
theorem dX12_findMay_18 : decode cX12_findMay 18 = .ok (.istore_n 2, 1) := by decide +kernel
theorem dX12_findMay_19 : decode cX12_findMay 19 = .ok (.iload_n 2, 1) := by decide +kernel
theorem dX12_findMay_20 : decode cX12_findMay 20 = .ok (.aload_n 0, 1) := by decide +kernel
theorem dX12_findMay_21 : decode cX12_findMay 21 = .ok (.getfield 230, 3) := by decide +kernel
theorem dX12_findMay_24 : decode cX12_findMay 24 = .ok (.if_icmp .ge 39, 3) := by decide +kernel
theorem dX12_findMay_27 : decode cX12_findMay 27 = .ok (.aload_n 0, 1) := by decide +kernel
theorem dX12_findMay_28 : decode cX12_findMay 28 = .ok (.getfield 111, 3) := by decide +kernel
theorem dX12_findMay_31 : decode cX12_findMay 31 = .ok (.iload_n 1, 1) := by decide +kernel
theorem dX12_findMay_32 : decode cX12_findMay 32 = .ok (.dup2, 1) := by decide +kernel
theorem dX12_findMay_33 : decode cX12_findMay 33 = .ok (.iaload, 1) := by decide +kernel
theorem dX12_findMay_34 : decode cX12_findMay 34 = .ok (.iload_n 2, 1) := by decide +kernel
theorem dX12_findMay_35 : decode cX12_findMay 35 = .ok (.iload_n 1, 1) := by decide +kernel
theorem dX12_findMay_36 : decode cX12_findMay 36 = .ok (.if_icmp .eq 18, 3) := by decide +kernel
theorem dX12_findMay_39 : decode cX12_findMay 39 = .ok (.aload_n 0, 1) := by decide +kernel
theorem dX12_findMay_40 : decode cX12_findMay 40 = .ok (.iload_n 1, 1) := by decide +kernel
theorem dX12_findMay_41 : decode cX12_findMay 41 = .ok (.iload_n 2, 1) := by decide +kernel
theorem dX12_findMay_42 : decode cX12_findMay 42 = .ok (.invokevirtual 265, 3) := by decide +kernel
theorem dX12_findMay_45 : decode cX12_findMay 45 = .ok (.ifCond .eq 9, 3) := by decide +kernel
theorem dX12_findMay_48 : decode cX12_findMay 48 = .ok (.iconst 1, 1) := by decide +kernel
theorem dX12_findMay_49 : decode cX12_findMay 49 = .ok (.iload_n 2, 1) := by decide +kernel
theorem dX12_findMay_50 : decode cX12_findMay 50 = .ok (.ishl, 1) := by decide +kernel
theorem dX12_findMay_51 : decode cX12_findMay 51 = .ok (.goto 4, 3) := by decide +kernel
theorem dX12_findMay_54 : decode cX12_findMay 54 = .ok (.iconst 0, 1) := by decide +kernel
theorem dX12_findMay_55 : decode cX12_findMay 55 = .ok (.ior, 1) := by decide +kernel
theorem dX12_findMay_56 : decode cX12_findMay 56 = .ok (.iastore, 1) := by decide +kernel
theorem dX12_findMay_57 : decode cX12_findMay 57 = .ok (.iinc 2 1, 3) := by decide +kernel
theorem dX12_findMay_60 : decode cX12_findMay 60 = .ok (.goto (-41), 3) := by decide +kernel
theorem dX12_findMay_63 : decode cX12_findMay 63 = .ok (.iinc 1 1, 3) := by decide +kernel
theorem dX12_findMay_66 : decode cX12_findMay 66 = .ok (.goto (-64), 3) := by decide +kernel
theorem dX12_findMay_69 : decode cX12_findMay 69 = .ok (.return_, 1) := by decide +kernel
theorem dX12_findChains_0 : decode cX12_findChains 0 = .ok (.aload_n 0, 1) := by decide +kernel
theorem dX12_findChains_1 : decode cX12_findChains 1 = .ok (.invokevirtual 243, 3) := by decide +kernel
theorem dX12_findChains_4 : decode cX12_findChains 4 = .ok (.aload_n 0, 1) := by decide +kernel
theorem dX12_findChains_5 : decode cX12_findChains 5 = .ok (.invokevirtual 262, 3) := by decide +kernel
theorem dX12_findChains_8 : decode cX12_findChains 8 = .ok (.aload_n 0, 1) := by decide +kernel
theorem dX12_findChains_9 : decode cX12_findChains 9 = .ok (.invokevirtual 268, 3) := by decide +kernel
theorem dX12_findChains_12 : decode cX12_findChains 12 = .ok (.iconst 0, 1) := by decide +kernel
theorem dX12_findChains_13 : decode cX12_findChains 13 = .ok (.istore_n 1, 1) := by decide +kernel
theorem dX12_findChains_14 : decode cX12_findChains 14 = .ok (.iload_n 1, 1) := by decide +kernel
theorem dX12_findChains_15 : decode cX12_findChains 15 = .ok (.sipush 1024, 3) := by decide +kernel
theorem dX12_findChains_18 : decode cX12_findChains 18 = .ok (.if_icmp .ge 25, 3) := by decide +kernel
theorem dX12_findChains_21 : decode cX12_findChains 21 = .ok (.aload_n 0, 1) := by decide +kernel
theorem dX12_findChains_22 : decode cX12_findChains 22 = .ok (.getfield 114, 3) := by decide +kernel
theorem dX12_findChains_25 : decode cX12_findChains 25 = .ok (.sipush 1024, 3) := by decide +kernel
theorem dX12_findChains_28 : decode cX12_findChains 28 = .ok (.aload_n 0, 1) := by decide +kernel
theorem dX12_findChains_29 : decode cX12_findChains 29 = .ok (.getfield 230, 3) := by decide +kernel
theorem dX12_findChains_32 : decode cX12_findChains 32 = .ok (.imul, 1) := by decide +kernel
theorem dX12_findChains_33 : decode cX12_findChains 33 = .ok (.iload_n 1, 1) := by decide +kernel
theorem dX12_findChains_34 : decode cX12_findChains 34 = .ok (.iadd, 1) := by decide +kernel
theorem dX12_findChains_35 : decode cX12_findChains 35 = .ok (.iconst 0, 1) := by decide +kernel
theorem dX12_findChains_36 : decode cX12_findChains 36 = .ok (.iastore, 1) := by decide +kernel
theorem dX12_findChains_37 : decode cX12_findChains 37 = .ok (.iinc 1 1, 3) := by decide +kernel
theorem dX12_findChains_40 : decode cX12_findChains 40 = .ok (.goto (-26), 3) := by decide +kernel
theorem dX12_findChains_43 : decode cX12_findChains 43 = .ok (.aload_n 0, 1) := by decide +kernel
theorem dX12_findChains_44 : decode cX12_findChains 44 = .ok (.getfield 230, 3) := by decide +kernel
theorem dX12_findChains_47 : decode cX12_findChains 47 = .ok (.iconst 1, 1) := by decide +kernel
theorem dX12_findChains_48 : decode cX12_findChains 48 = .ok (.isub, 1) := by decide +kernel
theorem dX12_findChains_49 : decode cX12_findChains 49 = .ok (.istore_n 1, 1) := by decide +kernel
theorem dX12_findChains_50 : decode cX12_findChains 50 = .ok (.iload_n 1, 1) := by decide +kernel
theorem dX12_findChains_51 : decode cX12_findChains 51 = .ok (.ifCond .lt 135, 3) := by decide +kernel
theorem dX12_findChains_54 : decode cX12_findChains 54 = .ok (.iconst 0, 1) := by decide +kernel
theorem dX12_findChains_55 : decode cX12_findChains 55 = .ok (.istore_n 2, 1) := by decide +kernel
theorem dX12_findChains_56 : decode cX12_findChains 56 = .ok (.iload_n 2, 1) := by decide +kernel
theorem dX12_findChains_57 : decode cX12_findChains 57 = .ok (.iconst 1, 1) := by decide +kernel
theorem dX12_findChains_58 : decode cX12_findChains 58 = .ok (.aload_n 0, 1) := by decide +kernel
theorem dX12_findChains_59 : decode cX12_findChains 59 = .ok (.getfield 230, 3) := by decide +kernel
theorem dX12_findChains_62 : decode cX12_findChains 62 = .ok (.ishl, 1) := by decide +kernel
theorem dX12_findChains_63 : decode cX12_findChains 63 = .ok (.if_icmp .ge 117, 3) := by decide +kernel
theorem dX12_findChains_66 : decode cX12_findChains 66 = .ok (.aload_n 0, 1) := by decide +kernel
theorem dX12_findChains_67 : decode cX12_findChains 67 = .ok (.getfield 114, 3) := by decide +kernel
theorem dX12_findChains_70 : decode cX12_findChains 70 = .ok (.sipush 1024, 3) := by decide +kernel
theorem dX12_findChains_73 : decode cX12_findChains 73 = .ok (.iload_n 1, 1) := by decide +kernel
theorem dX12_findChains_74 : decode cX12_findChains 74 = .ok (.iconst 1, 1) := by decide +kernel
theorem dX12_findChains_75 : decode cX12_findChains 75 = .ok (.iadd, 1) := by decide +kernel
theorem dX12_findChains_76 : decode cX12_findChains 76 = .ok (.imul, 1) := by decide +kernel
theorem dX12_findChains_77 : decode cX12_findChains 77 = .ok (.iload_n 2, 1) := by decide +kernel
theorem dX12_findChains_78 : decode cX12_findChains 78 = .ok (.iadd, 1) := by decide +kernel
theorem dX12_findChains_79 : decode cX12_findChains 79 = .ok (.iaload, 1) := by decide +kernel
theorem dX12_findChains_80 : decode cX12_findChains 80 = .ok (.istore_n 3, 1) := by decide +kernel
theorem dX12_findChains_81 : decode cX12_findChains 81 = .ok (.iconst 0, 1) := by decide +kernel
theorem dX12_findChains_82 : decode cX12_findChains 82 = .ok (.istore 4, 2) := by decide +kernel
theorem dX12_findChains_84 : decode cX12_findChains 84 = .ok (.iload 4, 2) := by decide +kernel
theorem dX12_findChains_86 : decode cX12_findChains 86 = .ok (.aload_n 0, 1) := by decide +kernel
theorem dX12_findChains_87 : decode cX12_findChains 87 = .ok (.getfield 230, 3) := by decide +kernel
theorem dX12_findChains_90 : decode cX12_findChains 90 = .ok (.if_icmp .ge 71, 3) := by decide +kernel
theorem dX12_findChains_93 : decode cX12_findChains 93 = .ok (.aload_n 0, 1) := by decide +kernel
theorem dX12_findChains_94 : decode cX12_findChains 94 = .ok (.getfield 111, 3) := by decide +kernel
theorem dX12_findChains_97 : decode cX12_findChains 97 = .ok (.iload_n 1, 1) := by decide +kernel
theorem dX12_findChains_98 : decode cX12_findChains 98 = .ok (.iaload, 1) := by decide +kernel
theorem dX12_findChains_99 : decode cX12_findChains 99 = .ok (.iload 4, 2) := by decide +kernel
theorem dX12_findChains_101 : decode cX12_findChains 101 = .ok (.invokestatic 206, 3) := by decide +kernel
theorem dX12_findChains_104 : decode cX12_findChains 104 = .ok (.ifCond .eq 51, 3) := by decide +kernel
theorem dX12_findChains_107 : decode cX12_findChains 107 = .ok (.iload_n 2, 1) := by decide +kernel
theorem dX12_findChains_108 : decode cX12_findChains 108 = .ok (.iload 4, 2) := by decide +kernel
theorem dX12_findChains_110 : decode cX12_findChains 110 = .ok (.invokestatic 206, 3) := by decide +kernel
theorem dX12_findChains_113 : decode cX12_findChains 113 = .ok (.ifCond .eq 6, 3) := by decide +kernel
theorem dX12_findChains_116 : decode cX12_findChains 116 = .ok (.goto 39, 3) := by decide +kernel
theorem dX12_findChains_119 : decode cX12_findChains 119 = .ok (.iconst 1, 1) := by decide +kernel
theorem dX12_findChains_120 : decode cX12_findChains 120 = .ok (.aload_n 0, 1) := by decide +kernel
theorem dX12_findChains_121 : decode cX12_findChains 121 = .ok (.getfield 114, 3) := by decide +kernel
theorem dX12_findChains_124 : decode cX12_findChains 124 = .ok (.sipush 1024, 3) := by decide +kernel
theorem dX12_findChains_127 : decode cX12_findChains 127 = .ok (.iload_n 1, 1) := by decide +kernel
theorem dX12_findChains_128 : decode cX12_findChains 128 = .ok (.iconst 1, 1) := by decide +kernel
theorem dX12_findChains_129 : decode cX12_findChains 129 = .ok (.iadd, 1) := by decide +kernel
theorem dX12_findChains_130 : decode cX12_findChains 130 = .ok (.imul, 1) := by decide +kernel
theorem dX12_findChains_131 : decode cX12_findChains 131 = .ok (.iload_n 2, 1) := by decide +kernel
theorem dX12_findChains_132 : decode cX12_findChains 132 = .ok (.iconst 1, 1) := by decide +kernel
theorem dX12_findChains_133 : decode cX12_findChains 133 = .ok (.iload 4, 2) := by decide +kernel
theorem dX12_findChains_135 : decode cX12_findChains 135 = .ok (.ishl, 1) := by decide +kernel
theorem dX12_findChains_136 : decode cX12_findChains 136 = .ok (.ior, 1) := by decide +kernel
theorem dX12_findChains_137 : decode cX12_findChains 137 = .ok (.iadd, 1) := by decide +kernel
theorem dX12_findChains_138 : decode cX12_findChains 138 = .ok (.iaload, 1) := by decide +kernel
theorem dX12_findChains_139 : decode cX12_findChains 139 = .ok (.iadd, 1) := by decide +kernel
theorem dX12_findChains_140 : decode cX12_findChains 140 = .ok (.istore 5, 2) := by decide +kernel
theorem dX12_findChains_142 : decode cX12_findChains 142 = .ok (.iload 5, 2) := by decide +kernel
theorem dX12_findChains_144 : decode cX12_findChains 144 = .ok (.iload_n 3, 1) := by decide +kernel
theorem dX12_findChains_145 : decode cX12_findChains 145 = .ok (.if_icmp .le 8, 3) := by decide +kernel
theorem dX12_findChains_148 : decode cX12_findChains 148 = .ok (.iload 5, 2) := by decide +kernel
theorem dX12_findChains_150 : decode cX12_findChains 150 = .ok (.goto 4, 3) := by decide +kernel
theorem dX12_findChains_153 : decode cX12_findChains 153 = .ok (.iload_n 3, 1) := by decide +kernel
theorem dX12_findChains_154 : decode cX12_findChains 154 = .ok (.istore_n 3, 1) := by decide +kernel
theorem dX12_findChains_155 : decode cX12_findChains 155 = .ok (.iinc 4 1, 3) := by decide +kernel
theorem dX12_findChains_158 : decode cX12_findChains 158 = .ok (.goto (-74), 3) := by decide +kernel
theorem dX12_findChains_161 : decode cX12_findChains 161 = .ok (.aload_n 0, 1) := by decide +kernel
theorem dX12_findChains_162 : decode cX12_findChains 162 = .ok (.getfield 114, 3) := by decide +kernel
theorem dX12_findChains_165 : decode cX12_findChains 165 = .ok (.sipush 1024, 3) := by decide +kernel
theorem dX12_findChains_168 : decode cX12_findChains 168 = .ok (.iload_n 1, 1) := by decide +kernel
theorem dX12_findChains_169 : decode cX12_findChains 169 = .ok (.imul, 1) := by decide +kernel
theorem dX12_findChains_170 : decode cX12_findChains 170 = .ok (.iload_n 2, 1) := by decide +kernel
theorem dX12_findChains_171 : decode cX12_findChains 171 = .ok (.iadd, 1) := by decide +kernel
theorem dX12_findChains_172 : decode cX12_findChains 172 = .ok (.iload_n 3, 1) := by decide +kernel
theorem dX12_findChains_173 : decode cX12_findChains 173 = .ok (.iastore, 1) := by decide +kernel
theorem dX12_findChains_174 : decode cX12_findChains 174 = .ok (.iinc 2 1, 3) := by decide +kernel
theorem dX12_findChains_177 : decode cX12_findChains 177 = .ok (.goto (-121), 3) := by decide +kernel
theorem dX12_findChains_180 : decode cX12_findChains 180 = .ok (.iinc 1 (-1), 3) := by decide +kernel
theorem dX12_findChains_183 : decode cX12_findChains 183 = .ok (.goto (-133), 3) := by decide +kernel
theorem dX12_findChains_186 : decode cX12_findChains 186 = .ok (.iconst 0, 1) := by decide +kernel
theorem dX12_findChains_187 : decode cX12_findChains 187 = .ok (.istore_n 1, 1) := by decide +kernel
theorem dX12_findChains_188 : decode cX12_findChains 188 = .ok (.iconst 0, 1) := by decide +kernel
theorem dX12_findChains_189 : decode cX12_findChains 189 = .ok (.istore_n 2, 1) := by decide +kernel
theorem dX12_findChains_190 : decode cX12_findChains 190 = .ok (.iload_n 2, 1) := by decide +kernel
theorem dX12_findChains_191 : decode cX12_findChains 191 = .ok (.aload_n 0, 1) := by decide +kernel
theorem dX12_findChains_192 : decode cX12_findChains 192 = .ok (.getfield 230, 3) := by decide +kernel
theorem dX12_findChains_195 : decode cX12_findChains 195 = .ok (.if_icmp .ge 118, 3) := by decide +kernel
theorem dX12_findChains_198 : decode cX12_findChains 198 = .ok (.iconst 0, 1) := by decide +kernel
theorem dX12_findChains_199 : decode cX12_findChains 199 = .ok (.istore_n 3, 1) := by decide +kernel
theorem dX12_findChains_200 : decode cX12_findChains 200 = .ok (.iload_n 3, 1) := by decide +kernel
theorem dX12_findChains_201 : decode cX12_findChains 201 = .ok (.aload_n 0, 1) := by decide +kernel
theorem dX12_findChains_202 : decode cX12_findChains 202 = .ok (.getfield 230, 3) := by decide +kernel
theorem dX12_findChains_205 : decode cX12_findChains 205 = .ok (.if_icmp .ge 65, 3) := by decide +kernel
theorem dX12_findChains_208 : decode cX12_findChains 208 = .ok (.aload_n 0, 1) := by decide +kernel
theorem dX12_findChains_209 : decode cX12_findChains 209 = .ok (.getfield 111, 3) := by decide +kernel
theorem dX12_findChains_212 : decode cX12_findChains 212 = .ok (.iload_n 2, 1) := by decide +kernel
theorem dX12_findChains_213 : decode cX12_findChains 213 = .ok (.iaload, 1) := by decide +kernel
theorem dX12_findChains_214 : decode cX12_findChains 214 = .ok (.iload_n 3, 1) := by decide +kernel
theorem dX12_findChains_215 : decode cX12_findChains 215 = .ok (.invokestatic 206, 3) := by decide +kernel
theorem dX12_findChains_218 : decode cX12_findChains 218 = .ok (.ifCond .eq 46, 3) := by decide +kernel
theorem dX12_findChains_221 : decode cX12_findChains 221 = .ok (.iload_n 1, 1) := by decide +kernel
theorem dX12_findChains_222 : decode cX12_findChains 222 = .ok (.iload_n 3, 1) := by decide +kernel
theorem dX12_findChains_223 : decode cX12_findChains 223 = .ok (.invokestatic 206, 3) := by decide +kernel
theorem dX12_findChains_226 : decode cX12_findChains 226 = .ok (.ifCond .ne 38, 3) := by decide +kernel
theorem dX12_findChains_229 : decode cX12_findChains 229 = .ok (.iconst 1, 1) := by decide +kernel
theorem dX12_findChains_230 : decode cX12_findChains 230 = .ok (.aload_n 0, 1) := by decide +kernel
theorem dX12_findChains_231 : decode cX12_findChains 231 = .ok (.getfield 114, 3) := by decide +kernel
theorem dX12_findChains_234 : decode cX12_findChains 234 = .ok (.sipush 1024, 3) := by decide +kernel
theorem dX12_findChains_237 : decode cX12_findChains 237 = .ok (.iload_n 2, 1) := by decide +kernel
theorem dX12_findChains_238 : decode cX12_findChains 238 = .ok (.iconst 1, 1) := by decide +kernel
theorem dX12_findChains_239 : decode cX12_findChains 239 = .ok (.iadd, 1) := by decide +kernel
theorem dX12_findChains_240 : decode cX12_findChains 240 = .ok (.imul, 1) := by decide +kernel
theorem dX12_findChains_241 : decode cX12_findChains 241 = .ok (.iload_n 1, 1) := by decide +kernel
theorem dX12_findChains_242 : decode cX12_findChains 242 = .ok (.iconst 1, 1) := by decide +kernel
theorem dX12_findChains_243 : decode cX12_findChains 243 = .ok (.iload_n 3, 1) := by decide +kernel
theorem dX12_findChains_244 : decode cX12_findChains 244 = .ok (.ishl, 1) := by decide +kernel
theorem dX12_findChains_245 : decode cX12_findChains 245 = .ok (.ior, 1) := by decide +kernel
theorem dX12_findChains_246 : decode cX12_findChains 246 = .ok (.iadd, 1) := by decide +kernel
theorem dX12_findChains_247 : decode cX12_findChains 247 = .ok (.iaload, 1) := by decide +kernel
theorem dX12_findChains_248 : decode cX12_findChains 248 = .ok (.iadd, 1) := by decide +kernel
theorem dX12_findChains_249 : decode cX12_findChains 249 = .ok (.aload_n 0, 1) := by decide +kernel
theorem dX12_findChains_250 : decode cX12_findChains 250 = .ok (.getfield 114, 3) := by decide +kernel
theorem dX12_findChains_253 : decode cX12_findChains 253 = .ok (.sipush 1024, 3) := by decide +kernel
theorem dX12_findChains_256 : decode cX12_findChains 256 = .ok (.iload_n 2, 1) := by decide +kernel
theorem dX12_findChains_257 : decode cX12_findChains 257 = .ok (.imul, 1) := by decide +kernel
theorem dX12_findChains_258 : decode cX12_findChains 258 = .ok (.iload_n 1, 1) := by decide +kernel
theorem dX12_findChains_259 : decode cX12_findChains 259 = .ok (.iadd, 1) := by decide +kernel
theorem dX12_findChains_260 : decode cX12_findChains 260 = .ok (.iaload, 1) := by decide +kernel
theorem dX12_findChains_261 : decode cX12_findChains 261 = .ok (.if_icmp .ge 9, 3) := by decide +kernel
theorem dX12_findChains_264 : decode cX12_findChains 264 = .ok (.iinc 3 1, 3) := by decide +kernel
theorem dX12_findChains_267 : decode cX12_findChains 267 = .ok (.goto (-67), 3) := by decide +kernel
theorem dX12_findChains_270 : decode cX12_findChains 270 = .ok (.aload_n 0, 1) := by decide +kernel
theorem dX12_findChains_271 : decode cX12_findChains 271 = .ok (.getfield 117, 3) := by decide +kernel
theorem dX12_findChains_274 : decode cX12_findChains 274 = .ok (.iload_n 2, 1) := by decide +kernel
theorem dX12_findChains_275 : decode cX12_findChains 275 = .ok (.iload_n 3, 1) := by decide +kernel
theorem dX12_findChains_276 : decode cX12_findChains 276 = .ok (.aload_n 0, 1) := by decide +kernel
theorem dX12_findChains_277 : decode cX12_findChains 277 = .ok (.getfield 230, 3) := by decide +kernel
theorem dX12_findChains_280 : decode cX12_findChains 280 = .ok (.if_icmp .ge 7, 3) := by decide +kernel
theorem dX12_findChains_283 : decode cX12_findChains 283 = .ok (.iload_n 3, 1) := by decide +kernel
theorem dX12_findChains_284 : decode cX12_findChains 284 = .ok (.goto 4, 3) := by decide +kernel
theorem dX12_findChains_287 : decode cX12_findChains 287 = .ok (.iconst (-1), 1) := by decide +kernel
theorem dX12_findChains_288 : decode cX12_findChains 288 = .ok (.iastore, 1) := by decide +kernel
theorem dX12_findChains_289 : decode cX12_findChains 289 = .ok (.iload_n 1, 1) := by decide +kernel
theorem dX12_findChains_290 : decode cX12_findChains 290 = .ok (.iload_n 3, 1) := by decide +kernel
theorem dX12_findChains_291 : decode cX12_findChains 291 = .ok (.aload_n 0, 1) := by decide +kernel
theorem dX12_findChains_292 : decode cX12_findChains 292 = .ok (.getfield 230, 3) := by decide +kernel
theorem dX12_findChains_295 : decode cX12_findChains 295 = .ok (.if_icmp .ge 9, 3) := by decide +kernel
theorem dX12_findChains_298 : decode cX12_findChains 298 = .ok (.iconst 1, 1) := by decide +kernel
theorem dX12_findChains_299 : decode cX12_findChains 299 = .ok (.iload_n 3, 1) := by decide +kernel
theorem dX12_findChains_300 : decode cX12_findChains 300 = .ok (.ishl, 1) := by decide +kernel
theorem dX12_findChains_301 : decode cX12_findChains 301 = .ok (.goto 4, 3) := by decide +kernel
theorem dX12_findChains_304 : decode cX12_findChains 304 = .ok (.iconst 0, 1) := by decide +kernel
theorem dX12_findChains_305 : decode cX12_findChains 305 = .ok (.ior, 1) := by decide +kernel
theorem dX12_findChains_306 : decode cX12_findChains 306 = .ok (.istore_n 1, 1) := by decide +kernel
theorem dX12_findChains_307 : decode cX12_findChains 307 = .ok (.iinc 2 1, 3) := by decide +kernel
theorem dX12_findChains_310 : decode cX12_findChains 310 = .ok (.goto (-120), 3) := by decide +kernel
theorem dX12_findChains_313 : decode cX12_findChains 313 = .ok (.return_, 1) := by decide +kernel
theorem dX12_buses_0 : decode cX12_buses 0 = .ok (.aload_n 0, 1) := by decide +kernel
theorem dX12_buses_1 : decode cX12_buses 1 = .ok (.invokevirtual 243, 3) := by decide +kernel
theorem dX12_buses_4 : decode cX12_buses 4 = .ok (.aload_n 0, 1) := by decide +kernel
theorem dX12_buses_5 : decode cX12_buses 5 = .ok (.getfield 233, 3) := by decide +kernel
theorem dX12_buses_8 : decode cX12_buses 8 = .ok (.ifCond .ne 10, 3) := by decide +kernel
theorem dX12_buses_11 : decode cX12_buses 11 = .ok (.aload_n 0, 1) := by decide +kernel
theorem dX12_buses_12 : decode cX12_buses 12 = .ok (.ldc 197, 2) := by decide +kernel
theorem dX12_buses_14 : decode cX12_buses 14 = .ok (.invokevirtual 177, 3) := by decide +kernel
theorem dX12_buses_17 : decode cX12_buses 17 = .ok (.ireturn, 1) := by decide +kernel
theorem dX12_buses_18 : decode cX12_buses 18 = .ok (.aload_n 0, 1) := by decide +kernel
theorem dX12_buses_19 : decode cX12_buses 19 = .ok (.invokevirtual 271, 3) := by decide +kernel
theorem dX12_buses_22 : decode cX12_buses 22 = .ok (.aload_n 0, 1) := by decide +kernel
theorem dX12_buses_23 : decode cX12_buses 23 = .ok (.getfield 230, 3) := by decide +kernel
theorem dX12_buses_26 : decode cX12_buses 26 = .ok (.aload_n 0, 1) := by decide +kernel
theorem dX12_buses_27 : decode cX12_buses 27 = .ok (.getfield 114, 3) := by decide +kernel
theorem dX12_buses_30 : decode cX12_buses 30 = .ok (.iconst 0, 1) := by decide +kernel
theorem dX12_buses_31 : decode cX12_buses 31 = .ok (.iaload, 1) := by decide +kernel
theorem dX12_buses_32 : decode cX12_buses 32 = .ok (.isub, 1) := by decide +kernel
theorem dX12_buses_33 : decode cX12_buses 33 = .ok (.ireturn, 1) := by decide +kernel
theorem dX12_isFirst_0 : decode cX12_isFirst 0 = .ok (.iconst 0, 1) := by decide +kernel
theorem dX12_isFirst_1 : decode cX12_isFirst 1 = .ok (.istore_n 2, 1) := by decide +kernel
theorem dX12_isFirst_2 : decode cX12_isFirst 2 = .ok (.iload_n 2, 1) := by decide +kernel
theorem dX12_isFirst_3 : decode cX12_isFirst 3 = .ok (.aload_n 0, 1) := by decide +kernel
theorem dX12_isFirst_4 : decode cX12_isFirst 4 = .ok (.getfield 230, 3) := by decide +kernel
theorem dX12_isFirst_7 : decode cX12_isFirst 7 = .ok (.if_icmp .ge 21, 3) := by decide +kernel
theorem dX12_isFirst_10 : decode cX12_isFirst 10 = .ok (.aload_n 0, 1) := by decide +kernel
theorem dX12_isFirst_11 : decode cX12_isFirst 11 = .ok (.getfield 117, 3) := by decide +kernel
