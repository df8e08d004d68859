theorem dX12_street_39 : decode cX12_street 39 = .ok (.getfield 186, 3) := by decide +kernel
theorem dX12_street_42 : decode cX12_street 42 = .ok (.bipush 14, 2) := by decide +kernel
theorem dX12_street_44 : decode cX12_street 44 = .ok (.if_icmp .ne 10, 3) := by decide +kernel
theorem dX12_street_47 : decode cX12_street 47 = .ok (.aload_n 0, 1) := by decide +kernel
theorem dX12_street_48 : decode cX12_street 48 = .ok (.ldc 176, 2) := by decide +kernel
theorem dX12_street_50 : decode cX12_street 50 = .ok (.invokevirtual 177, 3) := by decide +kernel
theorem dX12_street_53 : decode cX12_street 53 = .ok (.ireturn, 1) := by decide +kernel
theorem dX12_street_54 : decode cX12_street 54 = .ok (.aload_n 0, 1) := by decide +kernel
theorem dX12_street_55 : decode cX12_street 55 = .ok (.getfield 16, 3) := by decide +kernel
theorem dX12_street_58 : decode cX12_street 58 = .ok (.aload_n 0, 1) := by decide +kernel
theorem dX12_street_59 : decode cX12_street 59 = .ok (.getfield 186, 3) := by decide +kernel
theorem dX12_street_62 : decode cX12_street 62 = .ok (.iload_n 1, 1) := by decide +kernel
theorem dX12_street_63 : decode cX12_street 63 = .ok (.iastore, 1) := by decide +kernel
theorem dX12_street_64 : decode cX12_street 64 = .ok (.aload_n 0, 1) := by decide +kernel
theorem dX12_street_65 : decode cX12_street 65 = .ok (.getfield 20, 3) := by decide +kernel
theorem dX12_street_68 : decode cX12_street 68 = .ok (.aload_n 0, 1) := by decide +kernel
theorem dX12_street_69 : decode cX12_street 69 = .ok (.getfield 186, 3) := by decide +kernel
theorem dX12_street_72 : decode cX12_street 72 = .ok (.iload_n 2, 1) := by decide +kernel
theorem dX12_street_73 : decode cX12_street 73 = .ok (.iastore, 1) := by decide +kernel
theorem dX12_street_74 : decode cX12_street 74 = .ok (.aload_n 0, 1) := by decide +kernel
theorem dX12_street_75 : decode cX12_street 75 = .ok (.getfield 23, 3) := by decide +kernel
theorem dX12_street_78 : decode cX12_street 78 = .ok (.aload_n 0, 1) := by decide +kernel
theorem dX12_street_79 : decode cX12_street 79 = .ok (.getfield 186, 3) := by decide +kernel
theorem dX12_street_82 : decode cX12_street 82 = .ok (.iload_n 3, 1) := by decide +kernel
theorem dX12_street_83 : decode cX12_street 83 = .ok (.iastore, 1) := by decide +kernel
theorem dX12_street_84 : decode cX12_street 84 = .ok (.aload_n 0, 1) := by decide +kernel
theorem dX12_street_85 : decode cX12_street 85 = .ok (.getfield 26, 3) := by decide +kernel
theorem dX12_street_88 : decode cX12_street 88 = .ok (.aload_n 0, 1) := by decide +kernel
theorem dX12_street_89 : decode cX12_street 89 = .ok (.getfield 186, 3) := by decide +kernel
theorem dX12_street_92 : decode cX12_street 92 = .ok (.iconst 0, 1) := by decide +kernel
theorem dX12_street_93 : decode cX12_street 93 = .ok (.bastore, 1) := by decide +kernel
theorem dX12_street_94 : decode cX12_street 94 = .ok (.aload_n 0, 1) := by decide +kernel
theorem dX12_street_95 : decode cX12_street 95 = .ok (.dup, 1) := by decide +kernel
theorem dX12_street_96 : decode cX12_street 96 = .ok (.getfield 186, 3) := by decide +kernel
theorem dX12_street_99 : decode cX12_street 99 = .ok (.iconst 1, 1) := by decide +kernel
theorem dX12_street_100 : decode cX12_street 100 = .ok (.iadd, 1) := by decide +kernel
theorem dX12_street_101 : decode cX12_street 101 = .ok (.putfield 186, 3) := by decide +kernel
theorem dX12_street_104 : decode cX12_street 104 = .ok (.aload_n 0, 1) := by decide +kernel
theorem dX12_street_105 : decode cX12_street 105 = .ok (.invokevirtual 189, 3) := by decide +kernel
theorem dX12_street_108 : decode cX12_street 108 = .ok (.aload_n 0, 1) := by decide +kernel
theorem dX12_street_109 : decode cX12_street 109 = .ok (.getfield 186, 3) := by decide +kernel
theorem dX12_street_112 : decode cX12_street 112 = .ok (.iconst 1, 1) := by decide +kernel
theorem dX12_street_113 : decode cX12_street 113 = .ok (.isub, 1) := by decide +kernel
theorem dX12_street_114 : decode cX12_street 114 = .ok (.ireturn, 1) := by decide +kernel
theorem dX12_shut_0 : decode cX12_shut 0 = .ok (.iload_n 1, 1) := by decide +kernel
theorem dX12_shut_1 : decode cX12_shut 1 = .ok (.iconst 0, 1) := by decide +kernel
theorem dX12_shut_2 : decode cX12_shut 2 = .ok (.aload_n 0, 1) := by decide +kernel
theorem dX12_shut_3 : decode cX12_shut 3 = .ok (.getfield 186, 3) := by decide +kernel
theorem dX12_shut_6 : decode cX12_shut 6 = .ok (.iconst 1, 1) := by decide +kernel
theorem dX12_shut_7 : decode cX12_shut 7 = .ok (.isub, 1) := by decide +kernel
theorem dX12_shut_8 : decode cX12_shut 8 = .ok (.invokestatic 159, 3) := by decide +kernel
theorem dX12_shut_11 : decode cX12_shut 11 = .ok (.ifCond .ne 10, 3) := by decide +kernel
theorem dX12_shut_14 : decode cX12_shut 14 = .ok (.aload_n 0, 1) := by decide +kernel
theorem dX12_shut_15 : decode cX12_shut 15 = .ok (.ldc 185, 2) := by decide +kernel
theorem dX12_shut_17 : decode cX12_shut 17 = .ok (.invokevirtual 177, 3) := by decide +kernel
theorem dX12_shut_20 : decode cX12_shut 20 = .ok (.ireturn, 1) := by decide +kernel
theorem dX12_shut_21 : decode cX12_shut 21 = .ok (.aload_n 0, 1) := by decide +kernel
theorem dX12_shut_22 : decode cX12_shut 22 = .ok (.getfield 26, 3) := by decide +kernel
theorem dX12_shut_25 : decode cX12_shut 25 = .ok (.iload_n 1, 1) := by decide +kernel
theorem dX12_shut_26 : decode cX12_shut 26 = .ok (.baload, 1) := by decide +kernel
theorem dX12_shut_27 : decode cX12_shut 27 = .ok (.istore_n 3, 1) := by decide +kernel
theorem dX12_shut_28 : decode cX12_shut 28 = .ok (.aload_n 0, 1) := by decide +kernel
theorem dX12_shut_29 : decode cX12_shut 29 = .ok (.getfield 26, 3) := by decide +kernel
theorem dX12_shut_32 : decode cX12_shut 32 = .ok (.iload_n 1, 1) := by decide +kernel
theorem dX12_shut_33 : decode cX12_shut 33 = .ok (.iload_n 2, 1) := by decide +kernel
theorem dX12_shut_34 : decode cX12_shut 34 = .ok (.bastore, 1) := by decide +kernel
theorem dX12_shut_35 : decode cX12_shut 35 = .ok (.aload_n 0, 1) := by decide +kernel
theorem dX12_shut_36 : decode cX12_shut 36 = .ok (.invokevirtual 189, 3) := by decide +kernel
theorem dX12_shut_39 : decode cX12_shut 39 = .ok (.iload_n 3, 1) := by decide +kernel
theorem dX12_shut_40 : decode cX12_shut 40 = .ok (.iload_n 2, 1) := by decide +kernel
theorem dX12_shut_41 : decode cX12_shut 41 = .ok (.if_icmp .ne 7, 3) := by decide +kernel
theorem dX12_shut_44 : decode cX12_shut 44 = .ok (.iconst 0, 1) := by decide +kernel
theorem dX12_shut_45 : decode cX12_shut 45 = .ok (.goto 4, 3) := by decide +kernel
theorem dX12_shut_48 : decode cX12_shut 48 = .ok (.iconst 1, 1) := by decide +kernel
theorem dX12_shut_49 : decode cX12_shut 49 = .ok (.ireturn, 1) := by decide +kernel
theorem dX12_findFars_0 : decode cX12_findFars 0 = .ok (.iconst 0, 1) := by decide +kernel
theorem dX12_findFars_1 : decode cX12_findFars 1 = .ok (.istore_n 2, 1) := by decide +kernel
theorem dX12_findFars_2 : decode cX12_findFars 2 = .ok (.iload_n 2, 1) := by decide +kernel
theorem dX12_findFars_3 : decode cX12_findFars 3 = .ok (.bipush 8, 2) := by decide +kernel
theorem dX12_findFars_5 : decode cX12_findFars 5 = .ok (.if_icmp .ge 45, 3) := by decide +kernel
theorem dX12_findFars_8 : decode cX12_findFars 8 = .ok (.iconst 0, 1) := by decide +kernel
theorem dX12_findFars_9 : decode cX12_findFars 9 = .ok (.istore_n 3, 1) := by decide +kernel
theorem dX12_findFars_10 : decode cX12_findFars 10 = .ok (.iload_n 3, 1) := by decide +kernel
theorem dX12_findFars_11 : decode cX12_findFars 11 = .ok (.bipush 8, 2) := by decide +kernel
theorem dX12_findFars_13 : decode cX12_findFars 13 = .ok (.if_icmp .ge 31, 3) := by decide +kernel
theorem dX12_findFars_16 : decode cX12_findFars 16 = .ok (.aload_n 0, 1) := by decide +kernel
theorem dX12_findFars_17 : decode cX12_findFars 17 = .ok (.getfield 75, 3) := by decide +kernel
theorem dX12_findFars_20 : decode cX12_findFars 20 = .ok (.bipush 8, 2) := by decide +kernel
theorem dX12_findFars_22 : decode cX12_findFars 22 = .ok (.iload_n 2, 1) := by decide +kernel
theorem dX12_findFars_23 : decode cX12_findFars 23 = .ok (.imul, 1) := by decide +kernel
theorem dX12_findFars_24 : decode cX12_findFars 24 = .ok (.iload_n 3, 1) := by decide +kernel
theorem dX12_findFars_25 : decode cX12_findFars 25 = .ok (.iadd, 1) := by decide +kernel
theorem dX12_findFars_26 : decode cX12_findFars 26 = .ok (.iload_n 2, 1) := by decide +kernel
theorem dX12_findFars_27 : decode cX12_findFars 27 = .ok (.iload_n 3, 1) := by decide +kernel
theorem dX12_findFars_28 : decode cX12_findFars 28 = .ok (.if_icmp .ne 7, 3) := by decide +kernel
theorem dX12_findFars_31 : decode cX12_findFars 31 = .ok (.iconst 0, 1) := by decide +kernel
theorem dX12_findFars_32 : decode cX12_findFars 32 = .ok (.goto 5, 3) := by decide +kernel
theorem dX12_findFars_35 : decode cX12_findFars 35 = .ok (.ldc 192, 2) := by decide +kernel
theorem dX12_findFars_37 : decode cX12_findFars 37 = .ok (.iastore, 1) := by decide +kernel
theorem dX12_findFars_38 : decode cX12_findFars 38 = .ok (.iinc 3 1, 3) := by decide +kernel
theorem dX12_findFars_41 : decode cX12_findFars 41 = .ok (.goto (-31), 3) := by decide +kernel
theorem dX12_findFars_44 : decode cX12_findFars 44 = .ok (.iinc 2 1, 3) := by decide +kernel
theorem dX12_findFars_47 : decode cX12_findFars 47 = .ok (.goto (-45), 3) := by decide +kernel
theorem dX12_findFars_50 : decode cX12_findFars 50 = .ok (.iconst 0, 1) := by decide +kernel
theorem dX12_findFars_51 : decode cX12_findFars 51 = .ok (.istore_n 2, 1) := by decide +kernel
theorem dX12_findFars_52 : decode cX12_findFars 52 = .ok (.iload_n 2, 1) := by decide +kernel
theorem dX12_findFars_53 : decode cX12_findFars 53 = .ok (.aload_n 0, 1) := by decide +kernel
theorem dX12_findFars_54 : decode cX12_findFars 54 = .ok (.getfield 186, 3) := by decide +kernel
theorem dX12_findFars_57 : decode cX12_findFars 57 = .ok (.if_icmp .ge 124, 3) := by decide +kernel
theorem dX12_findFars_60 : decode cX12_findFars 60 = .ok (.aload_n 0, 1) := by decide +kernel
theorem dX12_findFars_61 : decode cX12_findFars 61 = .ok (.getfield 26, 3) := by decide +kernel
theorem dX12_findFars_64 : decode cX12_findFars 64 = .ok (.iload_n 2, 1) := by decide +kernel
theorem dX12_findFars_65 : decode cX12_findFars 65 = .ok (.baload, 1) := by decide +kernel
theorem dX12_findFars_66 : decode cX12_findFars 66 = .ok (.ifCond .eq 6, 3) := by decide +kernel
theorem dX12_findFars_69 : decode cX12_findFars 69 = .ok (.goto 106, 3) := by decide +kernel
theorem dX12_findFars_72 : decode cX12_findFars 72 = .ok (.aload_n 0, 1) := by decide +kernel
theorem dX12_findFars_73 : decode cX12_findFars 73 = .ok (.getfield 23, 3) := by decide +kernel
theorem dX12_findFars_76 : decode cX12_findFars 76 = .ok (.iload_n 2, 1) := by decide +kernel
theorem dX12_findFars_77 : decode cX12_findFars 77 = .ok (.iaload, 1) := by decide +kernel
theorem dX12_findFars_78 : decode cX12_findFars 78 = .ok (.iload_n 1, 1) := by decide +kernel
theorem dX12_findFars_79 : decode cX12_findFars 79 = .ok (.iadd, 1) := by decide +kernel
theorem dX12_findFars_80 : decode cX12_findFars 80 = .ok (.istore_n 3, 1) := by decide +kernel
theorem dX12_findFars_81 : decode cX12_findFars 81 = .ok (.bipush 8, 2) := by decide +kernel
theorem dX12_findFars_83 : decode cX12_findFars 83 = .ok (.aload_n 0, 1) := by decide +kernel
theorem dX12_findFars_84 : decode cX12_findFars 84 = .ok (.getfield 16, 3) := by decide +kernel
theorem dX12_findFars_87 : decode cX12_findFars 87 = .ok (.iload_n 2, 1) := by decide +kernel
theorem dX12_findFars_88 : decode cX12_findFars 88 = .ok (.iaload, 1) := by decide +kernel
theorem dX12_findFars_89 : decode cX12_findFars 89 = .ok (.imul, 1) := by decide +kernel
theorem dX12_findFars_90 : decode cX12_findFars 90 = .ok (.aload_n 0, 1) := by decide +kernel
theorem dX12_findFars_91 : decode cX12_findFars 91 = .ok (.getfield 20, 3) := by decide +kernel
theorem dX12_findFars_94 : decode cX12_findFars 94 = .ok (.iload_n 2, 1) := by decide +kernel
theorem dX12_findFars_95 : decode cX12_findFars 95 = .ok (.iaload, 1) := by decide +kernel
theorem dX12_findFars_96 : decode cX12_findFars 96 = .ok (.iadd, 1) := by decide +kernel
theorem dX12_findFars_97 : decode cX12_findFars 97 = .ok (.istore 4, 2) := by decide +kernel
theorem dX12_findFars_99 : decode cX12_findFars 99 = .ok (.bipush 8, 2) := by decide +kernel
theorem dX12_findFars_101 : decode cX12_findFars 101 = .ok (.aload_n 0, 1) := by decide +kernel
theorem dX12_findFars_102 : decode cX12_findFars 102 = .ok (.getfield 20, 3) := by decide +kernel
theorem dX12_findFars_105 : decode cX12_findFars 105 = .ok (.iload_n 2, 1) := by decide +kernel
theorem dX12_findFars_106 : decode cX12_findFars 106 = .ok (.iaload, 1) := by decide +kernel
theorem dX12_findFars_107 : decode cX12_findFars 107 = .ok (.imul, 1) := by decide +kernel
theorem dX12_findFars_108 : decode cX12_findFars 108 = .ok (.aload_n 0, 1) := by decide +kernel
theorem dX12_findFars_109 : decode cX12_findFars 109 = .ok (.getfield 16, 3) := by decide +kernel
theorem dX12_findFars_112 : decode cX12_findFars 112 = .ok (.iload_n 2, 1) := by decide +kernel
theorem dX12_findFars_113 : decode cX12_findFars 113 = .ok (.iaload, 1) := by decide +kernel
theorem dX12_findFars_114 : decode cX12_findFars 114 = .ok (.iadd, 1) := by decide +kernel
theorem dX12_findFars_115 : decode cX12_findFars 115 = .ok (.istore 5, 2) := by decide +kernel
theorem dX12_findFars_117 : decode cX12_findFars 117 = .ok (.aload_n 0, 1) := by decide +kernel
theorem dX12_findFars_118 : decode cX12_findFars 118 = .ok (.getfield 75, 3) := by decide +kernel
theorem dX12_findFars_121 : decode cX12_findFars 121 = .ok (.iload 4, 2) := by decide +kernel
theorem dX12_findFars_123 : decode cX12_findFars 123 = .ok (.iload_n 3, 1) := by decide +kernel
theorem dX12_findFars_124 : decode cX12_findFars 124 = .ok (.aload_n 0, 1) := by decide +kernel
theorem dX12_findFars_125 : decode cX12_findFars 125 = .ok (.getfield 75, 3) := by decide +kernel
theorem dX12_findFars_128 : decode cX12_findFars 128 = .ok (.iload 4, 2) := by decide +kernel
theorem dX12_findFars_130 : decode cX12_findFars 130 = .ok (.iaload, 1) := by decide +kernel
theorem dX12_findFars_131 : decode cX12_findFars 131 = .ok (.if_icmp .ge 7, 3) := by decide +kernel
theorem dX12_findFars_134 : decode cX12_findFars 134 = .ok (.iload_n 3, 1) := by decide +kernel
theorem dX12_findFars_135 : decode cX12_findFars 135 = .ok (.goto 10, 3) := by decide +kernel
theorem dX12_findFars_138 : decode cX12_findFars 138 = .ok (.aload_n 0, 1) := by decide +kernel
theorem dX12_findFars_139 : decode cX12_findFars 139 = .ok (.getfield 75, 3) := by decide +kernel
theorem dX12_findFars_142 : decode cX12_findFars 142 = .ok (.iload 4, 2) := by decide +kernel
theorem dX12_findFars_144 : decode cX12_findFars 144 = .ok (.iaload, 1) := by decide +kernel
theorem dX12_findFars_145 : decode cX12_findFars 145 = .ok (.iastore, 1) := by decide +kernel
theorem dX12_findFars_146 : decode cX12_findFars 146 = .ok (.aload_n 0, 1) := by decide +kernel
theorem dX12_findFars_147 : decode cX12_findFars 147 = .ok (.getfield 75, 3) := by decide +kernel
theorem dX12_findFars_150 : decode cX12_findFars 150 = .ok (.iload 5, 2) := by decide +kernel
theorem dX12_findFars_152 : decode cX12_findFars 152 = .ok (.iload_n 3, 1) := by decide +kernel
theorem dX12_findFars_153 : decode cX12_findFars 153 = .ok (.aload_n 0, 1) := by decide +kernel
theorem dX12_findFars_154 : decode cX12_findFars 154 = .ok (.getfield 75, 3) := by decide +kernel
theorem dX12_findFars_157 : decode cX12_findFars 157 = .ok (.iload 5, 2) := by decide +kernel
theorem dX12_findFars_159 : decode cX12_findFars 159 = .ok (.iaload, 1) := by decide +kernel
theorem dX12_findFars_160 : decode cX12_findFars 160 = .ok (.if_icmp .ge 7, 3) := by decide +kernel
theorem dX12_findFars_163 : decode cX12_findFars 163 = .ok (.iload_n 3, 1) := by decide +kernel
theorem dX12_findFars_164 : decode cX12_findFars 164 = .ok (.goto 10, 3) := by decide +kernel
theorem dX12_findFars_167 : decode cX12_findFars 167 = .ok (.aload_n 0, 1) := by decide +kernel
theorem dX12_findFars_168 : decode cX12_findFars 168 = .ok (.getfield 75, 3) := by decide +kernel
theorem dX12_findFars_171 : decode cX12_findFars 171 = .ok (.iload 5, 2) := by decide +kernel
theorem dX12_findFars_173 : decode cX12_findFars 173 = .ok (.iaload, 1) := by decide +kernel
theorem dX12_findFars_174 : decode cX12_findFars 174 = .ok (.iastore, 1) := by decide +kernel
theorem dX12_findFars_175 : decode cX12_findFars 175 = .ok (.iinc 2 1, 3) := by decide +kernel
theorem dX12_findFars_178 : decode cX12_findFars 178 = .ok (.goto (-126), 3) := by decide +kernel
theorem dX12_findFars_181 : decode cX12_findFars 181 = .ok (.iconst 0, 1) := by decide +kernel
theorem dX12_findFars_182 : decode cX12_findFars 182 = .ok (.istore_n 2, 1) := by decide +kernel
theorem dX12_findFars_183 : decode cX12_findFars 183 = .ok (.iload_n 2, 1) := by decide +kernel
theorem dX12_findFars_184 : decode cX12_findFars 184 = .ok (.bipush 8, 2) := by decide +kernel
theorem dX12_findFars_186 : decode cX12_findFars 186 = .ok (.if_icmp .ge 96, 3) := by decide +kernel
theorem dX12_findFars_189 : decode cX12_findFars 189 = .ok (.iconst 0, 1) := by decide +kernel
theorem dX12_findFars_190 : decode cX12_findFars 190 = .ok (.istore_n 3, 1) := by decide +kernel
theorem dX12_findFars_191 : decode cX12_findFars 191 = .ok (.iload_n 3, 1) := by decide +kernel
theorem dX12_findFars_192 : decode cX12_findFars 192 = .ok (.bipush 8, 2) := by decide +kernel
theorem dX12_findFars_194 : decode cX12_findFars 194 = .ok (.if_icmp .ge 82, 3) := by decide +kernel
theorem dX12_findFars_197 : decode cX12_findFars 197 = .ok (.iconst 0, 1) := by decide +kernel
theorem dX12_findFars_198 : decode cX12_findFars 198 = .ok (.istore 4, 2) := by decide +kernel
theorem dX12_findFars_200 : decode cX12_findFars 200 = .ok (.iload 4, 2) := by decide +kernel
theorem dX12_findFars_202 : decode cX12_findFars 202 = .ok (.bipush 8, 2) := by decide +kernel
theorem dX12_findFars_204 : decode cX12_findFars 204 = .ok (.if_icmp .ge 66, 3) := by decide +kernel
theorem dX12_findFars_207 : decode cX12_findFars 207 = .ok (.aload_n 0, 1) := by decide +kernel
theorem dX12_findFars_208 : decode cX12_findFars 208 = .ok (.getfield 75, 3) := by decide +kernel
theorem dX12_findFars_211 : decode cX12_findFars 211 = .ok (.bipush 8, 2) := by decide +kernel
theorem dX12_findFars_213 : decode cX12_findFars 213 = .ok (.iload_n 3, 1) := by decide +kernel
theorem dX12_findFars_214 : decode cX12_findFars 214 = .ok (.imul, 1) := by decide +kernel
theorem dX12_findFars_215 : decode cX12_findFars 215 = .ok (.iload_n 2, 1) := by decide +kernel
theorem dX12_findFars_216 : decode cX12_findFars 216 = .ok (.iadd, 1) := by decide +kernel
theorem dX12_findFars_217 : decode cX12_findFars 217 = .ok (.iaload, 1) := by decide +kernel
theorem dX12_findFars_218 : decode cX12_findFars 218 = .ok (.aload_n 0, 1) := by decide +kernel
theorem dX12_findFars_219 : decode cX12_findFars 219 = .ok (.getfield 75, 3) := by decide +kernel
theorem dX12_findFars_222 : decode cX12_findFars 222 = .ok (.bipush 8, 2) := by decide +kernel
theorem dX12_findFars_224 : decode cX12_findFars 224 = .ok (.iload_n 2, 1) := by decide +kernel
theorem dX12_findFars_225 : decode cX12_findFars 225 = .ok (.imul, 1) := by decide +kernel
theorem dX12_findFars_226 : decode cX12_findFars 226 = .ok (.iload 4, 2) := by decide +kernel
theorem dX12_findFars_228 : decode cX12_findFars 228 = .ok (.iadd, 1) := by decide +kernel
theorem dX12_findFars_229 : decode cX12_findFars 229 = .ok (.iaload, 1) := by decide +kernel
theorem dX12_findFars_230 : decode cX12_findFars 230 = .ok (.iadd, 1) := by decide +kernel
theorem dX12_findFars_231 : decode cX12_findFars 231 = .ok (.istore 5, 2) := by decide +kernel
theorem dX12_findFars_233 : decode cX12_findFars 233 = .ok (.iload 5, 2) := by decide +kernel
theorem dX12_findFars_235 : decode cX12_findFars 235 = .ok (.aload_n 0, 1) := by decide +kernel
theorem dX12_findFars_236 : decode cX12_findFars 236 = .ok (.getfield 75, 3) := by decide +kernel
theorem dX12_findFars_239 : decode cX12_findFars 239 = .ok (.bipush 8, 2) := by decide +kernel
theorem dX12_findFars_241 : decode cX12_findFars 241 = .ok (.iload_n 3, 1) := by decide +kernel
theorem dX12_findFars_242 : decode cX12_findFars 242 = .ok (.imul, 1) := by decide +kernel
theorem dX12_findFars_243 : decode cX12_findFars 243 = .ok (.iload 4, 2) := by decide +kernel
theorem dX12_findFars_245 : decode cX12_findFars 245 = .ok (.iadd, 1) := by decide +kernel
theorem dX12_findFars_246 : decode cX12_findFars 246 = .ok (.iaload, 1) := by decide +kernel
theorem dX12_findFars_247 : decode cX12_findFars 247 = .ok (.if_icmp .ge 17, 3) := by decide +kernel
theorem dX12_findFars_250 : decode cX12_findFars 250 = .ok (.aload_n 0, 1) := by decide +kernel
theorem dX12_findFars_251 : decode cX12_findFars 251 = .ok (.getfield 75, 3) := by decide +kernel
theorem dX12_findFars_254 : decode cX12_findFars 254 = .ok (.bipush 8, 2) := by decide +kernel
theorem dX12_findFars_256 : decode cX12_findFars 256 = .ok (.iload_n 3, 1) := by decide +kernel
theorem dX12_findFars_257 : decode cX12_findFars 257 = .ok (.imul, 1) := by decide +kernel
theorem dX12_findFars_258 : decode cX12_findFars 258 = .ok (.iload 4, 2) := by decide +kernel
theorem dX12_findFars_260 : decode cX12_findFars 260 = .ok (.iadd, 1) := by decide +kernel
theorem dX12_findFars_261 : decode cX12_findFars 261 = .ok (.iload 5, 2) := by decide +kernel
theorem dX12_findFars_263 : decode cX12_findFars 263 = .ok (.iastore, 1) := by decide +kernel
theorem dX12_findFars_264 : decode cX12_findFars 264 = .ok (.iinc 4 1, 3) := by decide +kernel
theorem dX12_findFars_267 : decode cX12_findFars 267 = .ok (.goto (-67), 3) := by decide +kernel
theorem dX12_findFars_270 : decode cX12_findFars 270 = .ok (.iinc 3 1, 3) := by decide +kernel
theorem dX12_findFars_273 : decode cX12_findFars 273 = .ok (.goto (-82), 3) := by decide +kernel
theorem dX12_findFars_276 : decode cX12_findFars 276 = .ok (.iinc 2 1, 3) := by decide +kernel
theorem dX12_findFars_279 : decode cX12_findFars 279 = .ok (.goto (-96), 3) := by decide +kernel
theorem dX12_findFars_282 : decode cX12_findFars 282 = .ok (.return_, 1) := by decide +kernel
theorem dX12_far_0 : decode cX12_far 0 = .ok (.aload_n 0, 1) := by decide +kernel
theorem dX12_far_1 : decode cX12_far 1 = .ok (.iload_n 1, 1) := by decide +kernel
theorem dX12_far_2 : decode cX12_far 2 = .ok (.invokevirtual 181, 3) := by decide +kernel
theorem dX12_far_5 : decode cX12_far 5 = .ok (.ifCond .eq 11, 3) := by decide +kernel
theorem dX12_far_8 : decode cX12_far 8 = .ok (.aload_n 0, 1) := by decide +kernel
theorem dX12_far_9 : decode cX12_far 9 = .ok (.iload_n 2, 1) := by decide +kernel
theorem dX12_far_10 : decode cX12_far 10 = .ok (.invokevirtual 181, 3) := by decide +kernel
theorem dX12_far_13 : decode cX12_far 13 = .ok (.ifCond .ne 10, 3) := by decide +kernel
theorem dX12_far_16 : decode cX12_far 16 = .ok (.aload_n 0, 1) := by decide +kernel
theorem dX12_far_17 : decode cX12_far 17 = .ok (.ldc 185, 2) := by decide +kernel
theorem dX12_far_19 : decode cX12_far 19 = .ok (.invokevirtual 177, 3) := by decide +kernel
theorem dX12_far_22 : decode cX12_far 22 = .ok (.ireturn, 1) := by decide +kernel
theorem dX12_far_23 : decode cX12_far 23 = .ok (.aload_n 0, 1) := by decide +kernel
theorem dX12_far_24 : decode cX12_far 24 = .ok (.iconst 0, 1) := by decide +kernel
theorem dX12_far_25 : decode cX12_far 25 = .ok (.invokevirtual 193, 3) := by decide +kernel
theorem dX12_far_28 : decode cX12_far 28 = .ok (.aload_n 0, 1) := by decide +kernel
theorem dX12_far_29 : decode cX12_far 29 = .ok (.getfield 75, 3) := by decide +kernel
theorem dX12_far_32 : decode cX12_far 32 = .ok (.bipush 8, 2) := by decide +kernel
theorem dX12_far_34 : decode cX12_far 34 = .ok (.iload_n 1, 1) := by decide +kernel
theorem dX12_far_35 : decode cX12_far 35 = .ok (.imul, 1) := by decide +kernel
theorem dX12_far_36 : decode cX12_far 36 = .ok (.iload_n 2, 1) := by decide +kernel
theorem dX12_far_37 : decode cX12_far 37 = .ok (.iadd, 1) := by decide +kernel
theorem dX12_far_38 : decode cX12_far 38 = .ok (.iaload, 1) := by decide +kernel
theorem dX12_far_39 : decode cX12_far 39 = .ok (.istore_n 3, 1) := by decide +kernel
theorem dX12_far_40 : decode cX12_far 40 = .ok (.iload_n 3, 1) := by decide +kernel
theorem dX12_far_41 : decode cX12_far 41 = .ok (.ldc 192, 2) := by decide +kernel
theorem dX12_far_43 : decode cX12_far 43 = .ok (.if_icmp .lt 12, 3) := by decide +kernel
theorem dX12_far_46 : decode cX12_far 46 = .ok (.aload_n 0, 1) := by decide +kernel
theorem dX12_far_47 : decode cX12_far 47 = .ok (.ldc 197, 2) := by decide +kernel
theorem dX12_far_49 : decode cX12_far 49 = .ok (.invokevirtual 177, 3) := by decide +kernel
theorem dX12_far_52 : decode cX12_far 52 = .ok (.goto 4, 3) := by decide +kernel
theorem dX12_far_55 : decode cX12_far 55 = .ok (.iload_n 3, 1) := by decide +kernel
theorem dX12_far_56 : decode cX12_far 56 = .ok (.ireturn, 1) := by decide +kernel
theorem dX12_school_0 : decode cX12_school 0 = .ok (.iload_n 1, 1) := by decide +kernel
theorem dX12_school_1 : decode cX12_school 1 = .ok (.iconst 0, 1) := by decide +kernel
theorem dX12_school_2 : decode cX12_school 2 = .ok (.iconst 3, 1) := by decide +kernel
theorem dX12_school_3 : decode cX12_school 3 = .ok (.invokestatic 159, 3) := by decide +kernel
theorem dX12_school_6 : decode cX12_school 6 = .ok (.ifCond .eq 11, 3) := by decide +kernel
theorem dX12_school_9 : decode cX12_school 9 = .ok (.aload_n 0, 1) := by decide +kernel
theorem dX12_school_10 : decode cX12_school 10 = .ok (.iload_n 2, 1) := by decide +kernel
theorem dX12_school_11 : decode cX12_school 11 = .ok (.invokevirtual 181, 3) := by decide +kernel
theorem dX12_school_14 : decode cX12_school 14 = .ok (.ifCond .ne 10, 3) := by decide +kernel
theorem dX12_school_17 : decode cX12_school 17 = .ok (.aload_n 0, 1) := by decide +kernel
theorem dX12_school_18 : decode cX12_school 18 = .ok (.ldc 185, 2) := by decide +kernel
theorem dX12_school_20 : decode cX12_school 20 = .ok (.invokevirtual 177, 3) := by decide +kernel
theorem dX12_school_23 : decode cX12_school 23 = .ok (.ireturn, 1) := by decide +kernel
theorem dX12_school_24 : decode cX12_school 24 = .ok (.aload_n 0, 1) := by decide +kernel
theorem dX12_school_25 : decode cX12_school 25 = .ok (.getfield 163, 3) := by decide +kernel
theorem dX12_school_28 : decode cX12_school 28 = .ok (.iconst 4, 1) := by decide +kernel
theorem dX12_school_29 : decode cX12_school 29 = .ok (.if_icmp .ne 10, 3) := by decide +kernel
theorem dX12_school_32 : decode cX12_school 32 = .ok (.aload_n 0, 1) := by decide +kernel
theorem dX12_school_33 : decode cX12_school 33 = .ok (.ldc 176, 2) := by decide +kernel
theorem dX12_school_35 : decode cX12_school 35 = .ok (.invokevirtual 177, 3) := by decide +kernel
theorem dX12_school_38 : decode cX12_school 38 = .ok (.ireturn, 1) := by decide +kernel
theorem dX12_school_39 : decode cX12_school 39 = .ok (.aload_n 0, 1) := by decide +kernel
theorem dX12_school_40 : decode cX12_school 40 = .ok (.getfield 30, 3) := by decide +kernel
theorem dX12_school_43 : decode cX12_school 43 = .ok (.aload_n 0, 1) := by decide +kernel
theorem dX12_school_44 : decode cX12_school 44 = .ok (.getfield 163, 3) := by decide +kernel
theorem dX12_school_47 : decode cX12_school 47 = .ok (.iload_n 1, 1) := by decide +kernel
theorem dX12_school_48 : decode cX12_school 48 = .ok (.iastore, 1) := by decide +kernel
theorem dX12_school_49 : decode cX12_school 49 = .ok (.aload_n 0, 1) := by decide +kernel
theorem dX12_school_50 : decode cX12_school 50 = .ok (.getfield 33, 3) := by decide +kernel
theorem dX12_school_53 : decode cX12_school 53 = .ok (.aload_n 0, 1) := by decide +kernel
theorem dX12_school_54 : decode cX12_school 54 = .ok (.getfield 163, 3) := by decide +kernel
theorem dX12_school_57 : decode cX12_school 57 = .ok (.iload_n 2, 1) := by decide +kernel
theorem dX12_school_58 : decode cX12_school 58 = .ok (.iastore, 1) := by decide +kernel
theorem dX12_school_59 : decode cX12_school 59 = .ok (.aload_n 0, 1) := by decide +kernel
theorem dX12_school_60 : decode cX12_school 60 = .ok (.getfield 36, 3) := by decide +kernel
theorem dX12_school_63 : decode cX12_school 63 = .ok (.aload_n 0, 1) := by decide +kernel
theorem dX12_school_64 : decode cX12_school 64 = .ok (.getfield 163, 3) := by decide +kernel
theorem dX12_school_67 : decode cX12_school 67 = .ok (.iconst 0, 1) := by decide +kernel
theorem dX12_school_68 : decode cX12_school 68 = .ok (.iastore, 1) := by decide +kernel
theorem dX12_school_69 : decode cX12_school 69 = .ok (.aload_n 0, 1) := by decide +kernel
theorem dX12_school_70 : decode cX12_school 70 = .ok (.getfield 39, 3) := by decide +kernel
theorem dX12_school_73 : decode cX12_school 73 = .ok (.aload_n 0, 1) := by decide +kernel
theorem dX12_school_74 : decode cX12_school 74 = .ok (.getfield 163, 3) := by decide +kernel
theorem dX12_school_77 : decode cX12_school 77 = .ok (.iconst 3, 1) := by decide +kernel
theorem dX12_school_78 : decode cX12_school 78 = .ok (.iastore, 1) := by decide +kernel
theorem dX12_school_79 : decode cX12_school 79 = .ok (.aload_n 0, 1) := by decide +kernel
theorem dX12_school_80 : decode cX12_school 80 = .ok (.dup, 1) := by decide +kernel
theorem dX12_school_81 : decode cX12_school 81 = .ok (.getfield 163, 3) := by decide +kernel
theorem dX12_school_84 : decode cX12_school 84 = .ok (.iconst 1, 1) := by decide +kernel
theorem dX12_school_85 : decode cX12_school 85 = .ok (.iadd, 1) := by decide +kernel
theorem dX12_school_86 : decode cX12_school 86 = .ok (.putfield 163, 3) := by decide +kernel
theorem dX12_school_89 : decode cX12_school 89 = .ok (.aload_n 0, 1) := by decide +kernel
theorem dX12_school_90 : decode cX12_school 90 = .ok (.invokevirtual 189, 3) := by decide +kernel
theorem dX12_school_93 : decode cX12_school 93 = .ok (.aload_n 0, 1) := by decide +kernel
theorem dX12_school_94 : decode cX12_school 94 = .ok (.getfield 163, 3) := by decide +kernel
theorem dX12_school_97 : decode cX12_school 97 = .ok (.iconst 1, 1) := by decide +kernel
theorem dX12_school_98 : decode cX12_school 98 = .ok (.isub, 1) := by decide +kernel
theorem dX12_school_99 : decode cX12_school 99 = .ok (.ireturn, 1) := by decide +kernel
theorem dX12_isOf_0 : decode cX12_isOf 0 = .ok (.iload_n 1, 1) := by decide +kernel
theorem dX12_isOf_1 : decode cX12_isOf 1 = .ok (.ifCond .eq 18, 3) := by decide +kernel
theorem dX12_isOf_4 : decode cX12_isOf 4 = .ok (.iload_n 0, 1) := by decide +kernel
theorem dX12_isOf_5 : decode cX12_isOf 5 = .ok (.iload_n 1, 1) := by decide +kernel
theorem dX12_isOf_6 : decode cX12_isOf 6 = .ok (.if_icmp .eq 13, 3) := by decide +kernel
theorem dX12_isOf_9 : decode cX12_isOf 9 = .ok (.iload_n 0, 1) := by decide +kernel
theorem dX12_isOf_10 : decode cX12_isOf 10 = .ok (.iconst 3, 1) := by decide +kernel
theorem dX12_isOf_11 : decode cX12_isOf 11 = .ok (.if_icmp .ne 12, 3) := by decide +kernel
theorem dX12_isOf_14 : decode cX12_isOf 14 = .ok (.iload_n 1, 1) := by decide +kernel
theorem dX12_isOf_15 : decode cX12_isOf 15 = .ok (.iconst 1, 1) := by decide +kernel
theorem dX12_isOf_16 : decode cX12_isOf 16 = .ok (.if_icmp .ne 7, 3) := by decide +kernel
theorem dX12_isOf_19 : decode cX12_isOf 19 = .ok (.iconst 1, 1) := by decide +kernel
theorem dX12_isOf_20 : decode cX12_isOf 20 = .ok (.goto 4, 3) := by decide +kernel
theorem dX12_isOf_23 : decode cX12_isOf 23 = .ok (.iconst 0, 1) := by decide +kernel
theorem dX12_isOf_24 : decode cX12_isOf 24 = .ok (.ireturn, 1) := by decide +kernel
theorem dX12_as_0 : decode cX12_as 0 = .ok (.aload_n 0, 1) := by decide +kernel
theorem dX12_as_1 : decode cX12_as 1 = .ok (.iload_n 1, 1) := by decide +kernel
theorem dX12_as_2 : decode cX12_as 2 = .ok (.invokevirtual 198, 3) := by decide +kernel
theorem dX12_as_5 : decode cX12_as 5 = .ok (.ifCond .eq 12, 3) := by decide +kernel
theorem dX12_as_8 : decode cX12_as 8 = .ok (.iload_n 2, 1) := by decide +kernel
theorem dX12_as_9 : decode cX12_as 9 = .ok (.iconst 0, 1) := by decide +kernel
theorem dX12_as_10 : decode cX12_as 10 = .ok (.iconst 3, 1) := by decide +kernel
theorem dX12_as_11 : decode cX12_as 11 = .ok (.invokestatic 159, 3) := by decide +kernel
theorem dX12_as_14 : decode cX12_as 14 = .ok (.ifCond .ne 10, 3) := by decide +kernel
theorem dX12_as_17 : decode cX12_as 17 = .ok (.aload_n 0, 1) := by decide +kernel
theorem dX12_as_18 : decode cX12_as 18 = .ok (.ldc 185, 2) := by decide +kernel
theorem dX12_as_20 : decode cX12_as 20 = .ok (.invokevirtual 177, 3) := by decide +kernel
theorem dX12_as_23 : decode cX12_as 23 = .ok (.ireturn, 1) := by decide +kernel
theorem dX12_as_24 : decode cX12_as 24 = .ok (.aload_n 0, 1) := by decide +kernel
theorem dX12_as_25 : decode cX12_as 25 = .ok (.getfield 30, 3) := by decide +kernel
theorem dX12_as_28 : decode cX12_as 28 = .ok (.iload_n 1, 1) := by decide +kernel
theorem dX12_as_29 : decode cX12_as 29 = .ok (.iaload, 1) := by decide +kernel
theorem dX12_as_30 : decode cX12_as 30 = .ok (.iload_n 2, 1) := by decide +kernel
theorem dX12_as_31 : decode cX12_as 31 = .ok (.invokestatic 201, 3) := by decide +kernel
theorem dX12_as_34 : decode cX12_as 34 = .ok (.ifCond .eq 7, 3) := by decide +kernel
theorem dX12_as_37 : decode cX12_as 37 = .ok (.iload_n 1, 1) := by decide +kernel
theorem dX12_as_38 : decode cX12_as 38 = .ok (.goto 9, 3) := by decide +kernel
theorem dX12_as_41 : decode cX12_as 41 = .ok (.aload_n 0, 1) := by decide +kernel
theorem dX12_as_42 : decode cX12_as 42 = .ok (.ldc 205, 2) := by decide +kernel
theorem dX12_as_44 : decode cX12_as 44 = .ok (.invokevirtual 177, 3) := by decide +kernel
theorem dX12_as_47 : decode cX12_as 47 = .ok (.ireturn, 1) := by decide +kernel
theorem dX12_stopsOf_0 : decode cX12_stopsOf 0 = .ok (.iconst 0, 1) := by decide +kernel
theorem dX12_stopsOf_1 : decode cX12_stopsOf 1 = .ok (.istore_n 2, 1) := by decide +kernel
theorem dX12_stopsOf_2 : decode cX12_stopsOf 2 = .ok (.iconst 0, 1) := by decide +kernel
theorem dX12_stopsOf_3 : decode cX12_stopsOf 3 = .ok (.istore_n 3, 1) := by decide +kernel
theorem dX12_stopsOf_4 : decode cX12_stopsOf 4 = .ok (.iload_n 3, 1) := by decide +kernel
theorem dX12_stopsOf_5 : decode cX12_stopsOf 5 = .ok (.aload_n 0, 1) := by decide +kernel
theorem dX12_stopsOf_6 : decode cX12_stopsOf 6 = .ok (.getfield 166, 3) := by decide +kernel
theorem dX12_stopsOf_9 : decode cX12_stopsOf 9 = .ok (.if_icmp .ge 29, 3) := by decide +kernel
theorem dX12_stopsOf_12 : decode cX12_stopsOf 12 = .ok (.iload_n 2, 1) := by decide +kernel
theorem dX12_stopsOf_13 : decode cX12_stopsOf 13 = .ok (.aload_n 0, 1) := by decide +kernel
theorem dX12_stopsOf_14 : decode cX12_stopsOf 14 = .ok (.getfield 42, 3) := by decide +kernel
theorem dX12_stopsOf_17 : decode cX12_stopsOf 17 = .ok (.iload_n 3, 1) := by decide +kernel
theorem dX12_stopsOf_18 : decode cX12_stopsOf 18 = .ok (.iaload, 1) := by decide +kernel
theorem dX12_stopsOf_19 : decode cX12_stopsOf 19 = .ok (.iload_n 1, 1) := by decide +kernel
theorem dX12_stopsOf_20 : decode cX12_stopsOf 20 = .ok (.if_icmp .ne 9, 3) := by decide +kernel
theorem dX12_stopsOf_23 : decode cX12_stopsOf 23 = .ok (.iconst 1, 1) := by decide +kernel
theorem dX12_stopsOf_24 : decode cX12_stopsOf 24 = .ok (.iload_n 3, 1) := by decide +kernel
theorem dX12_stopsOf_25 : decode cX12_stopsOf 25 = .ok (.ishl, 1) := by decide +kernel
theorem dX12_stopsOf_26 : decode cX12_stopsOf 26 = .ok (.goto 4, 3) := by decide +kernel
theorem dX12_stopsOf_29 : decode cX12_stopsOf 29 = .ok (.iconst 0, 1) := by decide +kernel
theorem dX12_stopsOf_30 : decode cX12_stopsOf 30 = .ok (.ior, 1) := by decide +kernel
theorem dX12_stopsOf_31 : decode cX12_stopsOf 31 = .ok (.istore_n 2, 1) := by decide +kernel
theorem dX12_stopsOf_32 : decode cX12_stopsOf 32 = .ok (.iinc 3 1, 3) := by decide +kernel
theorem dX12_stopsOf_35 : decode cX12_stopsOf 35 = .ok (.goto (-31), 3) := by decide +kernel
theorem dX12_stopsOf_38 : decode cX12_stopsOf 38 = .ok (.iload_n 2, 1) := by decide +kernel
theorem dX12_stopsOf_39 : decode cX12_stopsOf 39 = .ok (.ireturn, 1) := by decide +kernel
theorem dX12_ones_0 : decode cX12_ones 0 = .ok (.iconst 0, 1) := by decide +kernel
theorem dX12_ones_1 : decode cX12_ones 1 = .ok (.istore_n 1, 1) := by decide +kernel
theorem dX12_ones_2 : decode cX12_ones 2 = .ok (.iconst 0, 1) := by decide +kernel
theorem dX12_ones_3 : decode cX12_ones 3 = .ok (.istore_n 2, 1) := by decide +kernel
theorem dX12_ones_4 : decode cX12_ones 4 = .ok (.iload_n 2, 1) := by decide +kernel
theorem dX12_ones_5 : decode cX12_ones 5 = .ok (.bipush 10, 2) := by decide +kernel
theorem dX12_ones_7 : decode cX12_ones 7 = .ok (.if_icmp .ge 17, 3) := by decide +kernel
theorem dX12_ones_10 : decode cX12_ones 10 = .ok (.iload_n 1, 1) := by decide +kernel
theorem dX12_ones_11 : decode cX12_ones 11 = .ok (.iload_n 0, 1) := by decide +kernel
theorem dX12_ones_12 : decode cX12_ones 12 = .ok (.iload_n 2, 1) := by decide +kernel
theorem dX12_ones_13 : decode cX12_ones 13 = .ok (.ishr, 1) := by decide +kernel
theorem dX12_ones_14 : decode cX12_ones 14 = .ok (.iconst 1, 1) := by decide +kernel
theorem dX12_ones_15 : decode cX12_ones 15 = .ok (.iand, 1) := by decide +kernel
theorem dX12_ones_16 : decode cX12_ones 16 = .ok (.iadd, 1) := by decide +kernel
theorem dX12_ones_17 : decode cX12_ones 17 = .ok (.istore_n 1, 1) := by decide +kernel
theorem dX12_ones_18 : decode cX12_ones 18 = .ok (.iinc 2 1, 3) := by decide +kernel
theorem dX12_ones_21 : decode cX12_ones 21 = .ok (.goto (-17), 3) := by decide +kernel
theorem dX12_ones_24 : decode cX12_ones 24 = .ok (.iload_n 1, 1) := by decide +kernel
theorem dX12_ones_25 : decode cX12_ones 25 = .ok (.ireturn, 1) := by decide +kernel
theorem dX12_pupilsOf_0 : decode cX12_pupilsOf 0 = .ok (.iconst 0, 1) := by decide +kernel
theorem dX12_pupilsOf_1 : decode cX12_pupilsOf 1 = .ok (.istore_n 2, 1) := by decide +kernel
theorem dX12_pupilsOf_2 : decode cX12_pupilsOf 2 = .ok (.iconst 0, 1) := by decide +kernel
theorem dX12_pupilsOf_3 : decode cX12_pupilsOf 3 = .ok (.istore_n 3, 1) := by decide +kernel
theorem dX12_pupilsOf_4 : decode cX12_pupilsOf 4 = .ok (.iload_n 3, 1) := by decide +kernel
theorem dX12_pupilsOf_5 : decode cX12_pupilsOf 5 = .ok (.aload_n 0, 1) := by decide +kernel
theorem dX12_pupilsOf_6 : decode cX12_pupilsOf 6 = .ok (.getfield 166, 3) := by decide +kernel
theorem dX12_pupilsOf_9 : decode cX12_pupilsOf 9 = .ok (.if_icmp .ge 30, 3) := by decide +kernel
theorem dX12_pupilsOf_12 : decode cX12_pupilsOf 12 = .ok (.iload_n 2, 1) := by decide +kernel
theorem dX12_pupilsOf_13 : decode cX12_pupilsOf 13 = .ok (.iload_n 1, 1) := by decide +kernel
theorem dX12_pupilsOf_14 : decode cX12_pupilsOf 14 = .ok (.iload_n 3, 1) := by decide +kernel
theorem dX12_pupilsOf_15 : decode cX12_pupilsOf 15 = .ok (.invokestatic 206, 3) := by decide +kernel
theorem dX12_pupilsOf_18 : decode cX12_pupilsOf 18 = .ok (.ifCond .eq 12, 3) := by decide +kernel
theorem dX12_pupilsOf_21 : decode cX12_pupilsOf 21 = .ok (.aload_n 0, 1) := by decide +kernel
theorem dX12_pupilsOf_22 : decode cX12_pupilsOf 22 = .ok (.getfield 48, 3) := by decide +kernel
theorem dX12_pupilsOf_25 : decode cX12_pupilsOf 25 = .ok (.iload_n 3, 1) := by decide +kernel
theorem dX12_pupilsOf_26 : decode cX12_pupilsOf 26 = .ok (.iaload, 1) := by decide +kernel
theorem dX12_pupilsOf_27 : decode cX12_pupilsOf 27 = .ok (.goto 4, 3) := by decide +kernel
theorem dX12_pupilsOf_30 : decode cX12_pupilsOf 30 = .ok (.iconst 0, 1) := by decide +kernel
theorem dX12_pupilsOf_31 : decode cX12_pupilsOf 31 = .ok (.iadd, 1) := by decide +kernel
theorem dX12_pupilsOf_32 : decode cX12_pupilsOf 32 = .ok (.istore_n 2, 1) := by decide +kernel
theorem dX12_pupilsOf_33 : decode cX12_pupilsOf 33 = .ok (.iinc 3 1, 3) := by decide +kernel
theorem dX12_pupilsOf_36 : decode cX12_pupilsOf 36 = .ok (.goto (-32), 3) := by decide +kernel
theorem dX12_pupilsOf_39 : decode cX12_pupilsOf 39 = .ok (.iload_n 2, 1) := by decide +kernel
theorem dX12_pupilsOf_40 : decode cX12_pupilsOf 40 = .ok (.ireturn, 1) := by decide +kernel
theorem dX12_mayTake_0 : decode cX12_mayTake 0 = .ok (.aload_n 0, 1) := by decide +kernel
theorem dX12_mayTake_1 : decode cX12_mayTake 1 = .ok (.getfield 30, 3) := by decide +kernel
theorem dX12_mayTake_4 : decode cX12_mayTake 4 = .ok (.iload_n 1, 1) := by decide +kernel
theorem dX12_mayTake_5 : decode cX12_mayTake 5 = .ok (.iaload, 1) := by decide +kernel
theorem dX12_mayTake_6 : decode cX12_mayTake 6 = .ok (.iconst 3, 1) := by decide +kernel
theorem dX12_mayTake_7 : decode cX12_mayTake 7 = .ok (.if_icmp .ne 12, 3) := by decide +kernel
theorem dX12_mayTake_10 : decode cX12_mayTake 10 = .ok (.aload_n 0, 1) := by decide +kernel
theorem dX12_mayTake_11 : decode cX12_mayTake 11 = .ok (.getfield 13, 3) := by decide +kernel
theorem dX12_mayTake_14 : decode cX12_mayTake 14 = .ok (.iconst 2, 1) := by decide +kernel
theorem dX12_mayTake_15 : decode cX12_mayTake 15 = .ok (.idiv, 1) := by decide +kernel
theorem dX12_mayTake_16 : decode cX12_mayTake 16 = .ok (.goto 7, 3) := by decide +kernel
theorem dX12_mayTake_19 : decode cX12_mayTake 19 = .ok (.aload_n 0, 1) := by decide +kernel
theorem dX12_mayTake_20 : decode cX12_mayTake 20 = .ok (.getfield 13, 3) := by decide +kernel
theorem dX12_mayTake_23 : decode cX12_mayTake 23 = .ok (.ireturn, 1) := by decide +kernel
theorem dX12_of_0 : decode cX12_of 0 = .ok (.aload_n 0, 1) := by decide +kernel
theorem dX12_of_1 : decode cX12_of 1 = .ok (.iload_n 1, 1) := by decide +kernel
theorem dX12_of_2 : decode cX12_of 2 = .ok (.invokevirtual 198, 3) := by decide +kernel
theorem dX12_of_5 : decode cX12_of 5 = .ok (.ifCond .ne 10, 3) := by decide +kernel
theorem dX12_of_8 : decode cX12_of 8 = .ok (.aload_n 0, 1) := by decide +kernel
theorem dX12_of_9 : decode cX12_of 9 = .ok (.ldc 185, 2) := by decide +kernel
theorem dX12_of_11 : decode cX12_of 11 = .ok (.invokevirtual 177, 3) := by decide +kernel
theorem dX12_of_14 : decode cX12_of 14 = .ok (.ireturn, 1) := by decide +kernel
theorem dX12_of_15 : decode cX12_of 15 = .ok (.iload_n 2, 1) := by decide +kernel
theorem dX12_of_16 : decode cX12_of 16 = .ok (.tableswitch 97 0 6 #[44, 51, 58, 65, 72, 81, 91], 44) := by decide +kernel
theorem dX12_of_60 : decode cX12_of 60 = .ok (.aload_n 0, 1) := by decide +kernel
theorem dX12_of_61 : decode cX12_of 61 = .ok (.getfield 30, 3) := by decide +kernel
theorem dX12_of_64 : decode cX12_of 64 = .ok (.iload_n 1, 1) := by decide +kernel
theorem dX12_of_65 : decode cX12_of 65 = .ok (.iaload, 1) := by decide +kernel
theorem dX12_of_66 : decode cX12_of 66 = .ok (.ireturn, 1) := by decide +kernel
theorem dX12_of_67 : decode cX12_of 67 = .ok (.aload_n 0, 1) := by decide +kernel
theorem dX12_of_68 : decode cX12_of 68 = .ok (.getfield 33, 3) := by decide +kernel
theorem dX12_of_71 : decode cX12_of 71 = .ok (.iload_n 1, 1) := by decide +kernel
theorem dX12_of_72 : decode cX12_of 72 = .ok (.iaload, 1) := by decide +kernel
theorem dX12_of_73 : decode cX12_of 73 = .ok (.ireturn, 1) := by decide +kernel
theorem dX12_of_74 : decode cX12_of 74 = .ok (.aload_n 0, 1) := by decide +kernel
theorem dX12_of_75 : decode cX12_of 75 = .ok (.getfield 36, 3) := by decide +kernel
theorem dX12_of_78 : decode cX12_of 78 = .ok (.iload_n 1, 1) := by decide +kernel
theorem dX12_of_79 : decode cX12_of 79 = .ok (.iaload, 1) := by decide +kernel
theorem dX12_of_80 : decode cX12_of 80 = .ok (.ireturn, 1) := by decide +kernel
theorem dX12_of_81 : decode cX12_of 81 = .ok (.aload_n 0, 1) := by decide +kernel
theorem dX12_of_82 : decode cX12_of 82 = .ok (.getfield 39, 3) := by decide +kernel
theorem dX12_of_85 : decode cX12_of 85 = .ok (.iload_n 1, 1) := by decide +kernel
theorem dX12_of_86 : decode cX12_of 86 = .ok (.iaload, 1) := by decide +kernel
theorem dX12_of_87 : decode cX12_of 87 = .ok (.ireturn, 1) := by decide +kernel
theorem dX12_of_88 : decode cX12_of 88 = .ok (.aload_n 0, 1) := by decide +kernel
theorem dX12_of_89 : decode cX12_of 89 = .ok (.iload_n 1, 1) := by decide +kernel
theorem dX12_of_90 : decode cX12_of 90 = .ok (.invokevirtual 209, 3) := by decide +kernel
theorem dX12_of_93 : decode cX12_of 93 = .ok (.invokestatic 212, 3) := by decide +kernel
theorem dX12_of_96 : decode cX12_of 96 = .ok (.ireturn, 1) := by decide +kernel
theorem dX12_of_97 : decode cX12_of 97 = .ok (.aload_n 0, 1) := by decide +kernel
theorem dX12_of_98 : decode cX12_of 98 = .ok (.aload_n 0, 1) := by decide +kernel
theorem dX12_of_99 : decode cX12_of 99 = .ok (.iload_n 1, 1) := by decide +kernel
theorem dX12_of_100 : decode cX12_of 100 = .ok (.invokevirtual 209, 3) := by decide +kernel
theorem dX12_of_103 : decode cX12_of 103 = .ok (.invokevirtual 215, 3) := by decide +kernel
theorem dX12_of_106 : decode cX12_of 106 = .ok (.ireturn, 1) := by decide +kernel
theorem dX12_of_107 : decode cX12_of 107 = .ok (.aload_n 0, 1) := by decide +kernel
theorem dX12_of_108 : decode cX12_of 108 = .ok (.iload_n 1, 1) := by decide +kernel
theorem dX12_of_109 : decode cX12_of 109 = .ok (.invokevirtual 218, 3) := by decide +kernel
theorem dX12_of_112 : decode cX12_of 112 = .ok (.ireturn, 1) := by decide +kernel
theorem dX12_of_113 : decode cX12_of 113 = .ok (.aload_n 0, 1) := by decide +kernel
theorem dX12_of_114 : decode cX12_of 114 = .ok (.ldc 185, 2) := by decide +kernel
theorem dX12_of_116 : decode cX12_of 116 = .ok (.invokevirtual 177, 3) := by decide +kernel
theorem dX12_of_119 : decode cX12_of 119 = .ok (.ireturn, 1) := by decide +kernel
theorem dX12_bell_0 : decode cX12_bell 0 = .ok (.aload_n 0, 1) := by decide +kernel
theorem dX12_bell_1 : decode cX12_bell 1 = .ok (.iload_n 1, 1) := by decide +kernel
theorem dX12_bell_2 : decode cX12_bell 2 = .ok (.invokevirtual 198, 3) := by decide +kernel
theorem dX12_bell_5 : decode cX12_bell 5 = .ok (.ifCond .eq 13, 3) := by decide +kernel
theorem dX12_bell_8 : decode cX12_bell 8 = .ok (.iload_n 2, 1) := by decide +kernel
theorem dX12_bell_9 : decode cX12_bell 9 = .ok (.iconst 0, 1) := by decide +kernel
theorem dX12_bell_10 : decode cX12_bell 10 = .ok (.bipush 6, 2) := by decide +kernel
theorem dX12_bell_12 : decode cX12_bell 12 = .ok (.invokestatic 159, 3) := by decide +kernel
theorem dX12_bell_15 : decode cX12_bell 15 = .ok (.ifCond .ne 10, 3) := by decide +kernel
theorem dX12_bell_18 : decode cX12_bell 18 = .ok (.aload_n 0, 1) := by decide +kernel
theorem dX12_bell_19 : decode cX12_bell 19 = .ok (.ldc 185, 2) := by decide +kernel
theorem dX12_bell_21 : decode cX12_bell 21 = .ok (.invokevirtual 177, 3) := by decide +kernel
theorem dX12_bell_24 : decode cX12_bell 24 = .ok (.ireturn, 1) := by decide +kernel
theorem dX12_bell_25 : decode cX12_bell 25 = .ok (.aload_n 0, 1) := by decide +kernel
theorem dX12_bell_26 : decode cX12_bell 26 = .ok (.getfield 36, 3) := by decide +kernel
theorem dX12_bell_29 : decode cX12_bell 29 = .ok (.iload_n 1, 1) := by decide +kernel
theorem dX12_bell_30 : decode cX12_bell 30 = .ok (.iaload, 1) := by decide +kernel
theorem dX12_bell_31 : decode cX12_bell 31 = .ok (.istore_n 3, 1) := by decide +kernel
theorem dX12_bell_32 : decode cX12_bell 32 = .ok (.aload_n 0, 1) := by decide +kernel
theorem dX12_bell_33 : decode cX12_bell 33 = .ok (.getfield 36, 3) := by decide +kernel
theorem dX12_bell_36 : decode cX12_bell 36 = .ok (.iload_n 1, 1) := by decide +kernel
theorem dX12_bell_37 : decode cX12_bell 37 = .ok (.iload_n 2, 1) := by decide +kernel
theorem dX12_bell_38 : decode cX12_bell 38 = .ok (.iastore, 1) := by decide +kernel
theorem dX12_bell_39 : decode cX12_bell 39 = .ok (.iload_n 3, 1) := by decide +kernel
theorem dX12_bell_40 : decode cX12_bell 40 = .ok (.ireturn, 1) := by decide +kernel
theorem dX12_wish_0 : decode cX12_wish 0 = .ok (.aload_n 0, 1) := by decide +kernel
theorem dX12_wish_1 : decode cX12_wish 1 = .ok (.iload_n 1, 1) := by decide +kernel
theorem dX12_wish_2 : decode cX12_wish 2 = .ok (.invokevirtual 198, 3) := by decide +kernel
theorem dX12_wish_5 : decode cX12_wish 5 = .ok (.ifCond .eq 13, 3) := by decide +kernel
theorem dX12_wish_8 : decode cX12_wish 8 = .ok (.iload_n 2, 1) := by decide +kernel
theorem dX12_wish_9 : decode cX12_wish 9 = .ok (.iconst 0, 1) := by decide +kernel
theorem dX12_wish_10 : decode cX12_wish 10 = .ok (.bipush 6, 2) := by decide +kernel
theorem dX12_wish_12 : decode cX12_wish 12 = .ok (.invokestatic 159, 3) := by decide +kernel
theorem dX12_wish_15 : decode cX12_wish 15 = .ok (.ifCond .ne 10, 3) := by decide +kernel
theorem dX12_wish_18 : decode cX12_wish 18 = .ok (.aload_n 0, 1) := by decide +kernel
theorem dX12_wish_19 : decode cX12_wish 19 = .ok (.ldc 185, 2) := by decide +kernel
theorem dX12_wish_21 : decode cX12_wish 21 = .ok (.invokevirtual 177, 3) := by decide +kernel
theorem dX12_wish_24 : decode cX12_wish 24 = .ok (.ireturn, 1) := by decide +kernel
theorem dX12_wish_25 : decode cX12_wish 25 = .ok (.aload_n 0, 1) := by decide +kernel
theorem dX12_wish_26 : decode cX12_wish 26 = .ok (.getfield 39, 3) := by decide +kernel
theorem dX12_wish_29 : decode cX12_wish 29 = .ok (.iload_n 1, 1) := by decide +kernel
theorem dX12_wish_30 : decode cX12_wish 30 = .ok (.iaload, 1) := by decide +kernel
theorem dX12_wish_31 : decode cX12_wish 31 = .ok (.istore_n 3, 1) := by decide +kernel
theorem dX12_wish_32 : decode cX12_wish 32 = .ok (.aload_n 0, 1) := by decide +kernel
theorem dX12_wish_33 : decode cX12_wish 33 = .ok (.getfield 39, 3) := by decide +kernel
theorem dX12_wish_36 : decode cX12_wish 36 = .ok (.iload_n 1, 1) := by decide +kernel
theorem dX12_wish_37 : decode cX12_wish 37 = .ok (.iload_n 2, 1) := by decide +kernel
theorem dX12_wish_38 : decode cX12_wish 38 = .ok (.iastore, 1) := by decide +kernel
theorem dX12_wish_39 : decode cX12_wish 39 = .ok (.aload_n 0, 1) := by decide +kernel
theorem dX12_wish_40 : decode cX12_wish 40 = .ok (.invokevirtual 189, 3) := by decide +kernel
theorem dX12_wish_43 : decode cX12_wish 43 = .ok (.iload_n 3, 1) := by decide +kernel
theorem dX12_wish_44 : decode cX12_wish 44 = .ok (.ireturn, 1) := by decide +kernel
theorem dX12_stop_0 : decode cX12_stop 0 = .ok (.aload_n 0, 1) := by decide +kernel
theorem dX12_stop_1 : decode cX12_stop 1 = .ok (.iload_n 1, 1) := by decide +kernel
theorem dX12_stop_2 : decode cX12_stop 2 = .ok (.invokevirtual 198, 3) := by decide +kernel
theorem dX12_stop_5 : decode cX12_stop 5 = .ok (.ifCond .eq 31, 3) := by decide +kernel
theorem dX12_stop_8 : decode cX12_stop 8 = .ok (.aload_n 0, 1) := by decide +kernel
theorem dX12_stop_9 : decode cX12_stop 9 = .ok (.iload_n 2, 1) := by decide +kernel
theorem dX12_stop_10 : decode cX12_stop 10 = .ok (.invokevirtual 181, 3) := by decide +kernel
theorem dX12_stop_13 : decode cX12_stop 13 = .ok (.ifCond .eq 23, 3) := by decide +kernel
theorem dX12_stop_16 : decode cX12_stop 16 = .ok (.iload_n 3, 1) := by decide +kernel
theorem dX12_stop_17 : decode cX12_stop 17 = .ok (.iconst 1, 1) := by decide +kernel
theorem dX12_stop_18 : decode cX12_stop 18 = .ok (.bipush 30, 2) := by decide +kernel
theorem dX12_stop_20 : decode cX12_stop 20 = .ok (.invokestatic 159, 3) := by decide +kernel
theorem dX12_stop_23 : decode cX12_stop 23 = .ok (.ifCond .eq 13, 3) := by decide +kernel
theorem dX12_stop_26 : decode cX12_stop 26 = .ok (.iload 4, 2) := by decide +kernel
theorem dX12_stop_28 : decode cX12_stop 28 = .ok (.iconst 0, 1) := by decide +kernel
theorem dX12_stop_29 : decode cX12_stop 29 = .ok (.iconst 3, 1) := by decide +kernel
theorem dX12_stop_30 : decode cX12_stop 30 = .ok (.invokestatic 159, 3) := by decide +kernel
theorem dX12_stop_33 : decode cX12_stop 33 = .ok (.ifCond .ne 10, 3) := by decide +kernel
theorem dX12_stop_36 : decode cX12_stop 36 = .ok (.aload_n 0, 1) := by decide +kernel
theorem dX12_stop_37 : decode cX12_stop 37 = .ok (.ldc 185, 2) := by decide +kernel
theorem dX12_stop_39 : decode cX12_stop 39 = .ok (.invokevirtual 177, 3) := by decide +kernel
theorem dX12_stop_42 : decode cX12_stop 42 = .ok (.ireturn, 1) := by decide +kernel
theorem dX12_stop_43 : decode cX12_stop 43 = .ok (.aload_n 0, 1) := by decide +kernel
theorem dX12_stop_44 : decode cX12_stop 44 = .ok (.getfield 166, 3) := by decide +kernel
theorem dX12_stop_47 : decode cX12_stop 47 = .ok (.bipush 10, 2) := by decide +kernel
theorem dX12_stop_49 : decode cX12_stop 49 = .ok (.if_icmp .ne 10, 3) := by decide +kernel
theorem dX12_stop_52 : decode cX12_stop 52 = .ok (.aload_n 0, 1) := by decide +kernel
theorem dX12_stop_53 : decode cX12_stop 53 = .ok (.ldc 176, 2) := by decide +kernel
theorem dX12_stop_55 : decode cX12_stop 55 = .ok (.invokevirtual 177, 3) := by decide +kernel
theorem dX12_stop_58 : decode cX12_stop 58 = .ok (.ireturn, 1) := by decide +kernel
theorem dX12_stop_59 : decode cX12_stop 59 = .ok (.aload_n 0, 1) := by decide +kernel
theorem dX12_stop_60 : decode cX12_stop 60 = .ok (.getfield 42, 3) := by decide +kernel
theorem dX12_stop_63 : decode cX12_stop 63 = .ok (.aload_n 0, 1) := by decide +kernel
theorem dX12_stop_64 : decode cX12_stop 64 = .ok (.getfield 166, 3) := by decide +kernel
theorem dX12_stop_67 : decode cX12_stop 67 = .ok (.iload_n 1, 1) := by decide +kernel
theorem dX12_stop_68 : decode cX12_stop 68 = .ok (.iastore, 1) := by decide +kernel
theorem dX12_stop_69 : decode cX12_stop 69 = .ok (.aload_n 0, 1) := by decide +kernel
theorem dX12_stop_70 : decode cX12_stop 70 = .ok (.getfield 45, 3) := by decide +kernel
theorem dX12_stop_73 : decode cX12_stop 73 = .ok (.aload_n 0, 1) := by decide +kernel
theorem dX12_stop_74 : decode cX12_stop 74 = .ok (.getfield 166, 3) := by decide +kernel
theorem dX12_stop_77 : decode cX12_stop 77 = .ok (.iload_n 2, 1) := by decide +kernel
theorem dX12_stop_78 : decode cX12_stop 78 = .ok (.iastore, 1) := by decide +kernel
theorem dX12_stop_79 : decode cX12_stop 79 = .ok (.aload_n 0, 1) := by decide +kernel
theorem dX12_stop_80 : decode cX12_stop 80 = .ok (.getfield 48, 3) := by decide +kernel
theorem dX12_stop_83 : decode cX12_stop 83 = .ok (.aload_n 0, 1) := by decide +kernel
theorem dX12_stop_84 : decode cX12_stop 84 = .ok (.getfield 166, 3) := by decide +kernel
theorem dX12_stop_87 : decode cX12_stop 87 = .ok (.iload_n 3, 1) := by decide +kernel
theorem dX12_stop_88 : decode cX12_stop 88 = .ok (.iastore, 1) := by decide +kernel
theorem dX12_stop_89 : decode cX12_stop 89 = .ok (.aload_n 0, 1) := by decide +kernel
theorem dX12_stop_90 : decode cX12_stop 90 = .ok (.getfield 51, 3) := by decide +kernel
theorem dX12_stop_93 : decode cX12_stop 93 = .ok (.aload_n 0, 1) := by decide +kernel
theorem dX12_stop_94 : decode cX12_stop 94 = .ok (.getfield 166, 3) := by decide +kernel
theorem dX12_stop_97 : decode cX12_stop 97 = .ok (.iload 4, 2) := by decide +kernel
theorem dX12_stop_99 : decode cX12_stop 99 = .ok (.iastore, 1) := by decide +kernel
theorem dX12_stop_100 : decode cX12_stop 100 = .ok (.aload_n 0, 1) := by decide +kernel
theorem dX12_stop_101 : decode cX12_stop 101 = .ok (.dup, 1) := by decide +kernel
theorem dX12_stop_102 : decode cX12_stop 102 = .ok (.getfield 166, 3) := by decide +kernel
theorem dX12_stop_105 : decode cX12_stop 105 = .ok (.iconst 1, 1) := by decide +kernel
theorem dX12_stop_106 : decode cX12_stop 106 = .ok (.iadd, 1) := by decide +kernel
theorem dX12_stop_107 : decode cX12_stop 107 = .ok (.putfield 166, 3) := by decide +kernel
theorem dX12_stop_110 : decode cX12_stop 110 = .ok (.aload_n 0, 1) := by decide +kernel
theorem dX12_stop_111 : decode cX12_stop 111 = .ok (.invokevirtual 189, 3) := by decide +kernel
theorem dX12_stop_114 : decode cX12_stop 114 = .ok (.aload_n 0, 1) := by decide +kernel
theorem dX12_stop_115 : decode cX12_stop 115 = .ok (.getfield 166, 3) := by decide +kernel
theorem dX12_stop_118 : decode cX12_stop 118 = .ok (.iconst 1, 1) := by decide +kernel
theorem dX12_stop_119 : decode cX12_stop 119 = .ok (.isub, 1) := by decide +kernel
theorem dX12_stop_120 : decode cX12_stop 120 = .ok (.ireturn, 1) := by decide +kernel
theorem dX12_pupils_0 : decode cX12_pupils 0 = .ok (.aload_n 0, 1) := by decide +kernel
theorem dX12_pupils_1 : decode cX12_pupils 1 = .ok (.iload_n 1, 1) := by decide +kernel
theorem dX12_pupils_2 : decode cX12_pupils 2 = .ok (.invokevirtual 221, 3) := by decide +kernel
theorem dX12_pupils_5 : decode cX12_pupils 5 = .ok (.ifCond .eq 13, 3) := by decide +kernel
theorem dX12_pupils_8 : decode cX12_pupils 8 = .ok (.iload_n 2, 1) := by decide +kernel
theorem dX12_pupils_9 : decode cX12_pupils 9 = .ok (.iconst 1, 1) := by decide +kernel
theorem dX12_pupils_10 : decode cX12_pupils 10 = .ok (.bipush 30, 2) := by decide +kernel
theorem dX12_pupils_12 : decode cX12_pupils 12 = .ok (.invokestatic 159, 3) := by decide +kernel
theorem dX12_pupils_15 : decode cX12_pupils 15 = .ok (.ifCond .ne 10, 3) := by decide +kernel
theorem dX12_pupils_18 : decode cX12_pupils 18 = .ok (.aload_n 0, 1) := by decide +kernel
theorem dX12_pupils_19 : decode cX12_pupils 19 = .ok (.ldc 185, 2) := by decide +kernel
theorem dX12_pupils_21 : decode cX12_pupils 21 = .ok (.invokevirtual 177, 3) := by decide +kernel
theorem dX12_pupils_24 : decode cX12_pupils 24 = .ok (.ireturn, 1) := by decide +kernel
theorem dX12_pupils_25 : decode cX12_pupils 25 = .ok (.aload_n 0, 1) := by decide +kernel
theorem dX12_pupils_26 : decode cX12_pupils 26 = .ok (.getfield 48, 3) := by decide +kernel
theorem dX12_pupils_29 : decode cX12_pupils 29 = .ok (.iload_n 1, 1) := by decide +kernel
theorem dX12_pupils_30 : decode cX12_pupils 30 = .ok (.iaload, 1) := by decide +kernel
theorem dX12_pupils_31 : decode cX12_pupils 31 = .ok (.istore_n 3, 1) := by decide +kernel
theorem dX12_pupils_32 : decode cX12_pupils 32 = .ok (.aload_n 0, 1) := by decide +kernel
theorem dX12_pupils_33 : decode cX12_pupils 33 = .ok (.getfield 48, 3) := by decide +kernel
theorem dX12_pupils_36 : decode cX12_pupils 36 = .ok (.iload_n 1, 1) := by decide +kernel
theorem dX12_pupils_37 : decode cX12_pupils 37 = .ok (.iload_n 2, 1) := by decide +kernel
theorem dX12_pupils_38 : decode cX12_pupils 38 = .ok (.iastore, 1) := by decide +kernel
theorem dX12_pupils_39 : decode cX12_pupils 39 = .ok (.aload_n 0, 1) := by decide +kernel
theorem dX12_pupils_40 : decode cX12_pupils 40 = .ok (.invokevirtual 189, 3) := by decide +kernel
theorem dX12_pupils_43 : decode cX12_pupils 43 = .ok (.iload_n 3, 1) := by decide +kernel
theorem dX12_pupils_44 : decode cX12_pupils 44 = .ok (.ireturn, 1) := by decide +kernel
theorem dX12_gone_0 : decode cX12_gone 0 = .ok (.aload_n 0, 1) := by decide +kernel
theorem dX12_gone_1 : decode cX12_gone 1 = .ok (.iload_n 1, 1) := by decide +kernel
theorem dX12_gone_2 : decode cX12_gone 2 = .ok (.invokevirtual 221, 3) := by decide +kernel
theorem dX12_gone_5 : decode cX12_gone 5 = .ok (.ifCond .ne 10, 3) := by decide +kernel
theorem dX12_gone_8 : decode cX12_gone 8 = .ok (.aload_n 0, 1) := by decide +kernel
theorem dX12_gone_9 : decode cX12_gone 9 = .ok (.ldc 185, 2) := by decide +kernel
theorem dX12_gone_11 : decode cX12_gone 11 = .ok (.invokevirtual 177, 3) := by decide +kernel
theorem dX12_gone_14 : decode cX12_gone 14 = .ok (.ireturn, 1) := by decide +kernel
theorem dX12_gone_15 : decode cX12_gone 15 = .ok (.iload_n 1, 1) := by decide +kernel
theorem dX12_gone_16 : decode cX12_gone 16 = .ok (.istore_n 2, 1) := by decide +kernel
theorem dX12_gone_17 : decode cX12_gone 17 = .ok (.iload_n 2, 1) := by decide +kernel
theorem dX12_gone_18 : decode cX12_gone 18 = .ok (.aload_n 0, 1) := by decide +kernel
theorem dX12_gone_19 : decode cX12_gone 19 = .ok (.getfield 166, 3) := by decide +kernel
theorem dX12_gone_22 : decode cX12_gone 22 = .ok (.iconst 1, 1) := by decide +kernel
theorem dX12_gone_23 : decode cX12_gone 23 = .ok (.isub, 1) := by decide +kernel
theorem dX12_gone_24 : decode cX12_gone 24 = .ok (.if_icmp .ge 65, 3) := by decide +kernel
theorem dX12_gone_27 : decode cX12_gone 27 = .ok (.aload_n 0, 1) := by decide +kernel
theorem dX12_gone_28 : decode cX12_gone 28 = .ok (.getfield 42, 3) := by decide +kernel
theorem dX12_gone_31 : decode cX12_gone 31 = .ok (.iload_n 2, 1) := by decide +kernel
theorem dX12_gone_32 : decode cX12_gone 32 = .ok (.aload_n 0, 1) := by decide +kernel
theorem dX12_gone_33 : decode cX12_gone 33 = .ok (.getfield 42, 3) := by decide +kernel
theorem dX12_gone_36 : decode cX12_gone 36 = .ok (.iload_n 2, 1) := by decide +kernel
theorem dX12_gone_37 : decode cX12_gone 37 = .ok (.iconst 1, 1) := by decide +kernel
theorem dX12_gone_38 : decode cX12_gone 38 = .ok (.iadd, 1) := by decide +kernel
theorem dX12_gone_39 : decode cX12_gone 39 = .ok (.iaload, 1) := by decide +kernel
theorem dX12_gone_40 : decode cX12_gone 40 = .ok (.iastore, 1) := by decide +kernel
theorem dX12_gone_41 : decode cX12_gone 41 = .ok (.aload_n 0, 1) := by decide +kernel
theorem dX12_gone_42 : decode cX12_gone 42 = .ok (.getfield 45, 3) := by decide +kernel
theorem dX12_gone_45 : decode cX12_gone 45 = .ok (.iload_n 2, 1) := by decide +kernel
theorem dX12_gone_46 : decode cX12_gone 46 = .ok (.aload_n 0, 1) := by decide +kernel
theorem dX12_gone_47 : decode cX12_gone 47 = .ok (.getfield 45, 3) := by decide +kernel
theorem dX12_gone_50 : decode cX12_gone 50 = .ok (.iload_n 2, 1) := by decide +kernel
theorem dX12_gone_51 : decode cX12_gone 51 = .ok (.iconst 1, 1) := by decide +kernel
theorem dX12_gone_52 : decode cX12_gone 52 = .ok (.iadd, 1) := by decide +kernel
theorem dX12_gone_53 : decode cX12_gone 53 = .ok (.iaload, 1) := by decide +kernel
theorem dX12_gone_54 : decode cX12_gone 54 = .ok (.iastore, 1) := by decide +kernel
theorem dX12_gone_55 : decode cX12_gone 55 = .ok (.aload_n 0, 1) := by decide +kernel
theorem dX12_gone_56 : decode cX12_gone 56 = .ok (.getfield 48, 3) := by decide +kernel
theorem dX12_gone_59 : decode cX12_gone 59 = .ok (.iload_n 2, 1) := by decide +kernel
theorem dX12_gone_60 : decode cX12_gone 60 = .ok (.aload_n 0, 1) := by decide +kernel
theorem dX12_gone_61 : decode cX12_gone 61 = .ok (.getfield 48, 3) := by decide +kernel
theorem dX12_gone_64 : decode cX12_gone 64 = .ok (.iload_n 2, 1) := by decide +kernel
theorem dX12_gone_65 : decode cX12_gone 65 = .ok (.iconst 1, 1) := by decide +kernel
theorem dX12_gone_66 : decode cX12_gone 66 = .ok (.iadd, 1) := by decide +kernel
theorem dX12_gone_67 : decode cX12_gone 67 = .ok (.iaload, 1) := by decide +kernel
theorem dX12_gone_68 : decode cX12_gone 68 = .ok (.iastore, 1) := by decide +kernel
theorem dX12_gone_69 : decode cX12_gone 69 = .ok (.aload_n 0, 1) := by decide +kernel
theorem dX12_gone_70 : decode cX12_gone 70 = .ok (.getfield 51, 3) := by decide +kernel
theorem dX12_gone_73 : decode cX12_gone 73 = .ok (.iload_n 2, 1) := by decide +kernel
theorem dX12_gone_74 : decode cX12_gone 74 = .ok (.aload_n 0, 1) := by decide +kernel
theorem dX12_gone_75 : decode cX12_gone 75 = .ok (.getfield 51, 3) := by decide +kernel
theorem dX12_gone_78 : decode cX12_gone 78 = .ok (.iload_n 2, 1) := by decide +kernel
theorem dX12_gone_79 : decode cX12_gone 79 = .ok (.iconst 1, 1) := by decide +kernel
theorem dX12_gone_80 : decode cX12_gone 80 = .ok (.iadd, 1) := by decide +kernel
theorem dX12_gone_81 : decode cX12_gone 81 = .ok (.iaload, 1) := by decide +kernel
theorem dX12_gone_82 : decode cX12_gone 82 = .ok (.iastore, 1) := by decide +kernel
theorem dX12_gone_83 : decode cX12_gone 83 = .ok (.iinc 2 1, 3) := by decide +kernel
theorem dX12_gone_86 : decode cX12_gone 86 = .ok (.goto (-69), 3) := by decide +kernel
theorem dX12_gone_89 : decode cX12_gone 89 = .ok (.aload_n 0, 1) := by decide +kernel
theorem dX12_gone_90 : decode cX12_gone 90 = .ok (.dup, 1) := by decide +kernel
theorem dX12_gone_91 : decode cX12_gone 91 = .ok (.getfield 166, 3) := by decide +kernel
theorem dX12_gone_94 : decode cX12_gone 94 = .ok (.iconst 1, 1) := by decide +kernel
theorem dX12_gone_95 : decode cX12_gone 95 = .ok (.isub, 1) := by decide +kernel
theorem dX12_gone_96 : decode cX12_gone 96 = .ok (.putfield 166, 3) := by decide +kernel
theorem dX12_gone_99 : decode cX12_gone 99 = .ok (.aload_n 0, 1) := by decide +kernel
theorem dX12_gone_100 : decode cX12_gone 100 = .ok (.invokevirtual 189, 3) := by decide +kernel
theorem dX12_gone_103 : decode cX12_gone 103 = .ok (.aload_n 0, 1) := by decide +kernel
theorem dX12_gone_104 : decode cX12_gone 104 = .ok (.getfield 166, 3) := by decide +kernel
theorem dX12_gone_107 : decode cX12_gone 107 = .ok (.ireturn, 1) := by decide +kernel
theorem dX12_terms_0 : decode cX12_terms 0 = .ok (.iload_n 1, 1) := by decide +kernel
theorem dX12_terms_1 : decode cX12_terms 1 = .ok (.iconst 1, 1) := by decide +kernel
theorem dX12_terms_2 : decode cX12_terms 2 = .ok (.bipush 60, 2) := by decide +kernel
theorem dX12_terms_4 : decode cX12_terms 4 = .ok (.invokestatic 159, 3) := by decide +kernel
theorem dX12_terms_7 : decode cX12_terms 7 = .ok (.ifCond .eq 23, 3) := by decide +kernel
theorem dX12_terms_10 : decode cX12_terms 10 = .ok (.iload_n 2, 1) := by decide +kernel
theorem dX12_terms_11 : decode cX12_terms 11 = .ok (.iconst 1, 1) := by decide +kernel
theorem dX12_terms_12 : decode cX12_terms 12 = .ok (.bipush 90, 2) := by decide +kernel
theorem dX12_terms_14 : decode cX12_terms 14 = .ok (.invokestatic 159, 3) := by decide +kernel
theorem dX12_terms_17 : decode cX12_terms 17 = .ok (.ifCond .eq 13, 3) := by decide +kernel
theorem dX12_terms_20 : decode cX12_terms 20 = .ok (.iload_n 3, 1) := by decide +kernel
theorem dX12_terms_21 : decode cX12_terms 21 = .ok (.iconst 0, 1) := by decide +kernel
theorem dX12_terms_22 : decode cX12_terms 22 = .ok (.bipush 30, 2) := by decide +kernel
theorem dX12_terms_24 : decode cX12_terms 24 = .ok (.invokestatic 159, 3) := by decide +kernel
theorem dX12_terms_27 : decode cX12_terms 27 = .ok (.ifCond .ne 10, 3) := by decide +kernel
theorem dX12_terms_30 : decode cX12_terms 30 = .ok (.aload_n 0, 1) := by decide +kernel
theorem dX12_terms_31 : decode cX12_terms 31 = .ok (.ldc 185, 2) := by decide +kernel
theorem dX12_terms_33 : decode cX12_terms 33 = .ok (.invokevirtual 177, 3) := by decide +kernel
theorem dX12_terms_36 : decode cX12_terms 36 = .ok (.ireturn, 1) := by decide +kernel
theorem dX12_terms_37 : decode cX12_terms 37 = .ok (.aload_n 0, 1) := by decide +kernel
theorem dX12_terms_38 : decode cX12_terms 38 = .ok (.iload_n 1, 1) := by decide +kernel
theorem dX12_terms_39 : decode cX12_terms 39 = .ok (.putfield 7, 3) := by decide +kernel
theorem dX12_terms_42 : decode cX12_terms 42 = .ok (.aload_n 0, 1) := by decide +kernel
theorem dX12_terms_43 : decode cX12_terms 43 = .ok (.iload_n 2, 1) := by decide +kernel
theorem dX12_terms_44 : decode cX12_terms 44 = .ok (.putfield 13, 3) := by decide +kernel
theorem dX12_terms_47 : decode cX12_terms 47 = .ok (.aload_n 0, 1) := by decide +kernel
theorem dX12_terms_48 : decode cX12_terms 48 = .ok (.iload_n 3, 1) := by decide +kernel
theorem dX12_terms_49 : decode cX12_terms 49 = .ok (.putfield 224, 3) := by decide +kernel
theorem dX12_terms_52 : decode cX12_terms 52 = .ok (.aload_n 0, 1) := by decide +kernel
theorem dX12_terms_53 : decode cX12_terms 53 = .ok (.invokevirtual 189, 3) := by decide +kernel
theorem dX12_terms_56 : decode cX12_terms 56 = .ok (.iconst 1, 1) := by decide +kernel
theorem dX12_terms_57 : decode cX12_terms 57 = .ok (.ireturn, 1) := by decide +kernel
theorem dX12_lengths_0 : decode cX12_lengths 0 = .ok (.aload_n 0, 1) := by decide +kernel
theorem dX12_lengths_1 : decode cX12_lengths 1 = .ok (.getfield 81, 3) := by decide +kernel
theorem dX12_lengths_4 : decode cX12_lengths 4 = .ok (.iload_n 2, 1) := by decide +kernel
theorem dX12_lengths_5 : decode cX12_lengths 5 = .ok (.ldc 192, 2) := by decide +kernel
theorem dX12_lengths_7 : decode cX12_lengths 7 = .ok (.iastore, 1) := by decide +kernel
theorem dX12_lengths_8 : decode cX12_lengths 8 = .ok (.iconst 0, 1) := by decide +kernel
theorem dX12_lengths_9 : decode cX12_lengths 9 = .ok (.istore_n 3, 1) := by decide +kernel
theorem dX12_lengths_10 : decode cX12_lengths 10 = .ok (.iload_n 3, 1) := by decide +kernel
theorem dX12_lengths_11 : decode cX12_lengths 11 = .ok (.aload_n 0, 1) := by decide +kernel
theorem dX12_lengths_12 : decode cX12_lengths 12 = .ok (.getfield 166, 3) := by decide +kernel
theorem dX12_lengths_15 : decode cX12_lengths 15 = .ok (.if_icmp .ge 206, 3) := by decide +kernel
theorem dX12_lengths_18 : decode cX12_lengths 18 = .ok (.iload_n 2, 1) := by decide +kernel
theorem dX12_lengths_19 : decode cX12_lengths 19 = .ok (.iload_n 3, 1) := by decide +kernel
theorem dX12_lengths_20 : decode cX12_lengths 20 = .ok (.invokestatic 206, 3) := by decide +kernel
theorem dX12_lengths_23 : decode cX12_lengths 23 = .ok (.ifCond .ne 6, 3) := by decide +kernel
theorem dX12_lengths_26 : decode cX12_lengths 26 = .ok (.goto 189, 3) := by decide +kernel
theorem dX12_lengths_29 : decode cX12_lengths 29 = .ok (.iload_n 2, 1) := by decide +kernel
theorem dX12_lengths_30 : decode cX12_lengths 30 = .ok (.iconst 1, 1) := by decide +kernel
theorem dX12_lengths_31 : decode cX12_lengths 31 = .ok (.iload_n 3, 1) := by decide +kernel
theorem dX12_lengths_32 : decode cX12_lengths 32 = .ok (.ishl, 1) := by decide +kernel
theorem dX12_lengths_33 : decode cX12_lengths 33 = .ok (.iconst (-1), 1) := by decide +kernel
theorem dX12_lengths_34 : decode cX12_lengths 34 = .ok (.ixor, 1) := by decide +kernel
theorem dX12_lengths_35 : decode cX12_lengths 35 = .ok (.iand, 1) := by decide +kernel
theorem dX12_lengths_36 : decode cX12_lengths 36 = .ok (.istore 4, 2) := by decide +kernel
theorem dX12_lengths_38 : decode cX12_lengths 38 = .ok (.iload 4, 2) := by decide +kernel
theorem dX12_lengths_40 : decode cX12_lengths 40 = .ok (.ifCond .ne 27, 3) := by decide +kernel
theorem dX12_lengths_43 : decode cX12_lengths 43 = .ok (.aload_n 0, 1) := by decide +kernel
theorem dX12_lengths_44 : decode cX12_lengths 44 = .ok (.getfield 75, 3) := by decide +kernel
theorem dX12_lengths_47 : decode cX12_lengths 47 = .ok (.bipush 8, 2) := by decide +kernel
theorem dX12_lengths_49 : decode cX12_lengths 49 = .ok (.aload_n 0, 1) := by decide +kernel
theorem dX12_lengths_50 : decode cX12_lengths 50 = .ok (.getfield 45, 3) := by decide +kernel
theorem dX12_lengths_53 : decode cX12_lengths 53 = .ok (.iload_n 3, 1) := by decide +kernel
theorem dX12_lengths_54 : decode cX12_lengths 54 = .ok (.iaload, 1) := by decide +kernel
theorem dX12_lengths_55 : decode cX12_lengths 55 = .ok (.imul, 1) := by decide +kernel
theorem dX12_lengths_56 : decode cX12_lengths 56 = .ok (.aload_n 0, 1) := by decide +kernel
theorem dX12_lengths_57 : decode cX12_lengths 57 = .ok (.getfield 33, 3) := by decide +kernel
theorem dX12_lengths_60 : decode cX12_lengths 60 = .ok (.iload_n 1, 1) := by decide +kernel
theorem dX12_lengths_61 : decode cX12_lengths 61 = .ok (.iaload, 1) := by decide +kernel
theorem dX12_lengths_62 : decode cX12_lengths 62 = .ok (.iadd, 1) := by decide +kernel
theorem dX12_lengths_63 : decode cX12_lengths 63 = .ok (.iaload, 1) := by decide +kernel
theorem dX12_lengths_64 : decode cX12_lengths 64 = .ok (.goto 5, 3) := by decide +kernel
theorem dX12_lengths_67 : decode cX12_lengths 67 = .ok (.ldc 192, 2) := by decide +kernel
theorem dX12_lengths_69 : decode cX12_lengths 69 = .ok (.istore 5, 2) := by decide +kernel
theorem dX12_lengths_71 : decode cX12_lengths 71 = .ok (.iconst 0, 1) := by decide +kernel
theorem dX12_lengths_72 : decode cX12_lengths 72 = .ok (.istore 6, 2) := by decide +kernel
theorem dX12_lengths_74 : decode cX12_lengths 74 = .ok (.iload 6, 2) := by decide +kernel
theorem dX12_lengths_76 : decode cX12_lengths 76 = .ok (.aload_n 0, 1) := by decide +kernel
theorem dX12_lengths_77 : decode cX12_lengths 77 = .ok (.getfield 166, 3) := by decide +kernel
theorem dX12_lengths_80 : decode cX12_lengths 80 = .ok (.if_icmp .ge 76, 3) := by decide +kernel
theorem dX12_lengths_83 : decode cX12_lengths 83 = .ok (.iload 4, 2) := by decide +kernel
theorem dX12_lengths_85 : decode cX12_lengths 85 = .ok (.iload 6, 2) := by decide +kernel
theorem dX12_lengths_87 : decode cX12_lengths 87 = .ok (.invokestatic 206, 3) := by decide +kernel
theorem dX12_lengths_90 : decode cX12_lengths 90 = .ok (.ifCond .ne 6, 3) := by decide +kernel
theorem dX12_lengths_93 : decode cX12_lengths 93 = .ok (.goto 57, 3) := by decide +kernel
theorem dX12_lengths_96 : decode cX12_lengths 96 = .ok (.aload_n 0, 1) := by decide +kernel
theorem dX12_lengths_97 : decode cX12_lengths 97 = .ok (.getfield 75, 3) := by decide +kernel
theorem dX12_lengths_100 : decode cX12_lengths 100 = .ok (.bipush 8, 2) := by decide +kernel
theorem dX12_lengths_102 : decode cX12_lengths 102 = .ok (.aload_n 0, 1) := by decide +kernel
theorem dX12_lengths_103 : decode cX12_lengths 103 = .ok (.getfield 45, 3) := by decide +kernel
theorem dX12_lengths_106 : decode cX12_lengths 106 = .ok (.iload_n 3, 1) := by decide +kernel
theorem dX12_lengths_107 : decode cX12_lengths 107 = .ok (.iaload, 1) := by decide +kernel
theorem dX12_lengths_108 : decode cX12_lengths 108 = .ok (.imul, 1) := by decide +kernel
theorem dX12_lengths_109 : decode cX12_lengths 109 = .ok (.aload_n 0, 1) := by decide +kernel
theorem dX12_lengths_110 : decode cX12_lengths 110 = .ok (.getfield 45, 3) := by decide +kernel
theorem dX12_lengths_113 : decode cX12_lengths 113 = .ok (.iload 6, 2) := by decide +kernel
theorem dX12_lengths_115 : decode cX12_lengths 115 = .ok (.iaload, 1) := by decide +kernel
theorem dX12_lengths_116 : decode cX12_lengths 116 = .ok (.iadd, 1) := by decide +kernel
theorem dX12_lengths_117 : decode cX12_lengths 117 = .ok (.iaload, 1) := by decide +kernel
theorem dX12_lengths_118 : decode cX12_lengths 118 = .ok (.aload_n 0, 1) := by decide +kernel
theorem dX12_lengths_119 : decode cX12_lengths 119 = .ok (.getfield 78, 3) := by decide +kernel
theorem dX12_lengths_122 : decode cX12_lengths 122 = .ok (.bipush 10, 2) := by decide +kernel
theorem dX12_lengths_124 : decode cX12_lengths 124 = .ok (.iload 4, 2) := by decide +kernel
theorem dX12_lengths_126 : decode cX12_lengths 126 = .ok (.imul, 1) := by decide +kernel
theorem dX12_lengths_127 : decode cX12_lengths 127 = .ok (.iload 6, 2) := by decide +kernel
theorem dX12_lengths_129 : decode cX12_lengths 129 = .ok (.iadd, 1) := by decide +kernel
theorem dX12_lengths_130 : decode cX12_lengths 130 = .ok (.iaload, 1) := by decide +kernel
theorem dX12_lengths_131 : decode cX12_lengths 131 = .ok (.iadd, 1) := by decide +kernel
theorem dX12_lengths_132 : decode cX12_lengths 132 = .ok (.istore 7, 2) := by decide +kernel
theorem dX12_lengths_134 : decode cX12_lengths 134 = .ok (.iload 7, 2) := by decide +kernel
theorem dX12_lengths_136 : decode cX12_lengths 136 = .ok (.iload 5, 2) := by decide +kernel
theorem dX12_lengths_138 : decode cX12_lengths 138 = .ok (.if_icmp .ge 8, 3) := by decide +kernel
theorem dX12_lengths_141 : decode cX12_lengths 141 = .ok (.iload 7, 2) := by decide +kernel
theorem dX12_lengths_143 : decode cX12_lengths 143 = .ok (.goto 5, 3) := by decide +kernel
theorem dX12_lengths_146 : decode cX12_lengths 146 = .ok (.iload 5, 2) := by decide +kernel
theorem dX12_lengths_148 : decode cX12_lengths 148 = .ok (.istore 5, 2) := by decide +kernel
theorem dX12_lengths_150 : decode cX12_lengths 150 = .ok (.iinc 6 1, 3) := by decide +kernel
theorem dX12_lengths_153 : decode cX12_lengths 153 = .ok (.goto (-79), 3) := by decide +kernel
theorem dX12_lengths_156 : decode cX12_lengths 156 = .ok (.iload 5, 2) := by decide +kernel
theorem dX12_lengths_158 : decode cX12_lengths 158 = .ok (.ldc 192, 2) := by decide +kernel
theorem dX12_lengths_160 : decode cX12_lengths 160 = .ok (.if_icmp .lt 8, 3) := by decide +kernel
theorem dX12_lengths_163 : decode cX12_lengths 163 = .ok (.ldc 192, 2) := by decide +kernel
theorem dX12_lengths_165 : decode cX12_lengths 165 = .ok (.goto 7, 3) := by decide +kernel
theorem dX12_lengths_168 : decode cX12_lengths 168 = .ok (.iload 5, 2) := by decide +kernel
theorem dX12_lengths_170 : decode cX12_lengths 170 = .ok (.iconst 1, 1) := by decide +kernel
theorem dX12_lengths_171 : decode cX12_lengths 171 = .ok (.iadd, 1) := by decide +kernel
theorem dX12_lengths_172 : decode cX12_lengths 172 = .ok (.istore 5, 2) := by decide +kernel
theorem dX12_lengths_174 : decode cX12_lengths 174 = .ok (.aload_n 0, 1) := by decide +kernel
theorem dX12_lengths_175 : decode cX12_lengths 175 = .ok (.getfield 78, 3) := by decide +kernel
theorem dX12_lengths_178 : decode cX12_lengths 178 = .ok (.bipush 10, 2) := by decide +kernel
theorem dX12_lengths_180 : decode cX12_lengths 180 = .ok (.iload_n 2, 1) := by decide +kernel
theorem dX12_lengths_181 : decode cX12_lengths 181 = .ok (.imul, 1) := by decide +kernel
theorem dX12_lengths_182 : decode cX12_lengths 182 = .ok (.iload_n 3, 1) := by decide +kernel
theorem dX12_lengths_183 : decode cX12_lengths 183 = .ok (.iadd, 1) := by decide +kernel
theorem dX12_lengths_184 : decode cX12_lengths 184 = .ok (.iload 5, 2) := by decide +kernel
theorem dX12_lengths_186 : decode cX12_lengths 186 = .ok (.iastore, 1) := by decide +kernel
theorem dX12_lengths_187 : decode cX12_lengths 187 = .ok (.aload_n 0, 1) := by decide +kernel
theorem dX12_lengths_188 : decode cX12_lengths 188 = .ok (.getfield 81, 3) := by decide +kernel
theorem dX12_lengths_191 : decode cX12_lengths 191 = .ok (.iload_n 2, 1) := by decide +kernel
theorem dX12_lengths_192 : decode cX12_lengths 192 = .ok (.iload 5, 2) := by decide +kernel
theorem dX12_lengths_194 : decode cX12_lengths 194 = .ok (.aload_n 0, 1) := by decide +kernel
theorem dX12_lengths_195 : decode cX12_lengths 195 = .ok (.getfield 81, 3) := by decide +kernel
theorem dX12_lengths_198 : decode cX12_lengths 198 = .ok (.iload_n 2, 1) := by decide +kernel
theorem dX12_lengths_199 : decode cX12_lengths 199 = .ok (.iaload, 1) := by decide +kernel
theorem dX12_lengths_200 : decode cX12_lengths 200 = .ok (.if_icmp .ge 8, 3) := by decide +kernel
theorem dX12_lengths_203 : decode cX12_lengths 203 = .ok (.iload 5, 2) := by decide +kernel
theorem dX12_lengths_205 : decode cX12_lengths 205 = .ok (.goto 9, 3) := by decide +kernel
theorem dX12_lengths_208 : decode cX12_lengths 208 = .ok (.aload_n 0, 1) := by decide +kernel
theorem dX12_lengths_209 : decode cX12_lengths 209 = .ok (.getfield 81, 3) := by decide +kernel
theorem dX12_lengths_212 : decode cX12_lengths 212 = .ok (.iload_n 2, 1) := by decide +kernel
theorem dX12_lengths_213 : decode cX12_lengths 213 = .ok (.iaload, 1) := by decide +kernel
theorem dX12_lengths_214 : decode cX12_lengths 214 = .ok (.iastore, 1) := by decide +kernel
theorem dX12_lengths_215 : decode cX12_lengths 215 = .ok (.iinc 3 1, 3) := by decide +kernel
theorem dX12_lengths_218 : decode cX12_lengths 218 = .ok (.goto (-208), 3) := by decide +kernel
theorem dX12_lengths_221 : decode cX12_lengths 221 = .ok (.return_, 1) := by decide +kernel
theorem dX12_isRoute_0 : decode cX12_isRoute 0 = .ok (.aload_n 0, 1) := by decide +kernel
theorem dX12_isRoute_1 : decode cX12_isRoute 1 = .ok (.getfield 81, 3) := by decide +kernel
theorem dX12_isRoute_4 : decode cX12_isRoute 4 = .ok (.iload_n 2, 1) := by decide +kernel
theorem dX12_isRoute_5 : decode cX12_isRoute 5 = .ok (.iaload, 1) := by decide +kernel
theorem dX12_isRoute_6 : decode cX12_isRoute 6 = .ok (.aload_n 0, 1) := by decide +kernel
theorem dX12_isRoute_7 : decode cX12_isRoute 7 = .ok (.iload_n 1, 1) := by decide +kernel
theorem dX12_isRoute_8 : decode cX12_isRoute 8 = .ok (.invokevirtual 218, 3) := by decide +kernel
theorem dX12_isRoute_11 : decode cX12_isRoute 11 = .ok (.if_icmp .gt 19, 3) := by decide +kernel
theorem dX12_isRoute_14 : decode cX12_isRoute 14 = .ok (.aload_n 0, 1) := by decide +kernel
theorem dX12_isRoute_15 : decode cX12_isRoute 15 = .ok (.iload_n 2, 1) := by decide +kernel
theorem dX12_isRoute_16 : decode cX12_isRoute 16 = .ok (.invokevirtual 215, 3) := by decide +kernel
theorem dX12_isRoute_19 : decode cX12_isRoute 19 = .ok (.aload_n 0, 1) := by decide +kernel
theorem dX12_isRoute_20 : decode cX12_isRoute 20 = .ok (.getfield 7, 3) := by decide +kernel
theorem dX12_isRoute_23 : decode cX12_isRoute 23 = .ok (.if_icmp .gt 7, 3) := by decide +kernel
theorem dX12_isRoute_26 : decode cX12_isRoute 26 = .ok (.iconst 1, 1) := by decide +kernel
theorem dX12_isRoute_27 : decode cX12_isRoute 27 = .ok (.goto 4, 3) := by decide +kernel
theorem dX12_isRoute_30 : decode cX12_isRoute 30 = .ok (.iconst 0, 1) := by decide +kernel
theorem dX12_isRoute_31 : decode cX12_isRoute 31 = .ok (.ireturn, 1) := by decide +kernel
theorem dX12_part_0 : decode cX12_part 0 = .ok (.aload_n 0, 1) := by decide +kernel
theorem dX12_part_1 : decode cX12_part 1 = .ok (.getfield 84, 3) := by decide +kernel
theorem dX12_part_4 : decode cX12_part 4 = .ok (.iload_n 2, 1) := by decide +kernel
theorem dX12_part_5 : decode cX12_part 5 = .ok (.ldc 192, 2) := by decide +kernel
theorem dX12_part_7 : decode cX12_part 7 = .ok (.iastore, 1) := by decide +kernel
theorem dX12_part_8 : decode cX12_part 8 = .ok (.aload_n 0, 1) := by decide +kernel
theorem dX12_part_9 : decode cX12_part 9 = .ok (.getfield 87, 3) := by decide +kernel
