theorem dX5_collect_170 : decode cX5_collect 170 = .ok (.iaload, 1) := by decide +kernel
theorem dX5_collect_171 : decode cX5_collect 171 = .ok (.aaload, 1) := by decide +kernel
theorem dX5_collect_172 : decode cX5_collect 172 = .ok (.getfield 98, 3) := by decide +kernel
theorem dX5_collect_175 : decode cX5_collect 175 = .ok (.iaload, 1) := by decide +kernel
theorem dX5_collect_176 : decode cX5_collect 176 = .ok (.iastore, 1) := by decide +kernel
theorem dX5_collect_177 : decode cX5_collect 177 = .ok (.iinc 6 1, 3) := by decide +kernel
theorem dX5_collect_180 : decode cX5_collect 180 = .ok (.goto (-42), 3) := by decide +kernel
theorem dX5_collect_183 : decode cX5_collect 183 = .ok (.iinc 4 1, 3) := by decide +kernel
theorem dX5_collect_186 : decode cX5_collect 186 = .ok (.goto (-98), 3) := by decide +kernel
theorem dX5_collect_189 : decode cX5_collect 189 = .ok (.return_, 1) := by decide +kernel
theorem dX5_load_0 : decode cX5_load 0 = .ok (.iconst 0, 1) := by decide +kernel
theorem dX5_load_1 : decode cX5_load 1 = .ok (.istore_n 2, 1) := by decide +kernel
theorem dX5_load_2 : decode cX5_load 2 = .ok (.iconst 0, 1) := by decide +kernel
theorem dX5_load_3 : decode cX5_load 3 = .ok (.istore_n 3, 1) := by decide +kernel
theorem dX5_load_4 : decode cX5_load 4 = .ok (.iload_n 3, 1) := by decide +kernel
theorem dX5_load_5 : decode cX5_load 5 = .ok (.aload_n 0, 1) := by decide +kernel
theorem dX5_load_6 : decode cX5_load 6 = .ok (.getfield 42, 3) := by decide +kernel
theorem dX5_load_9 : decode cX5_load 9 = .ok (.if_icmp .ge 26, 3) := by decide +kernel
theorem dX5_load_12 : decode cX5_load 12 = .ok (.iload_n 1, 1) := by decide +kernel
theorem dX5_load_13 : decode cX5_load 13 = .ok (.iload_n 3, 1) := by decide +kernel
theorem dX5_load_14 : decode cX5_load 14 = .ok (.invokestatic 104, 3) := by decide +kernel
theorem dX5_load_17 : decode cX5_load 17 = .ok (.ifCond .eq 12, 3) := by decide +kernel
theorem dX5_load_20 : decode cX5_load 20 = .ok (.iload_n 2, 1) := by decide +kernel
theorem dX5_load_21 : decode cX5_load 21 = .ok (.aload_n 0, 1) := by decide +kernel
theorem dX5_load_22 : decode cX5_load 22 = .ok (.getfield 15, 3) := by decide +kernel
theorem dX5_load_25 : decode cX5_load 25 = .ok (.iload_n 3, 1) := by decide +kernel
theorem dX5_load_26 : decode cX5_load 26 = .ok (.iaload, 1) := by decide +kernel
theorem dX5_load_27 : decode cX5_load 27 = .ok (.iadd, 1) := by decide +kernel
theorem dX5_load_28 : decode cX5_load 28 = .ok (.istore_n 2, 1) := by decide +kernel
theorem dX5_load_29 : decode cX5_load 29 = .ok (.iinc 3 1, 3) := by decide +kernel
theorem dX5_load_32 : decode cX5_load 32 = .ok (.goto (-28), 3) := by decide +kernel
theorem dX5_load_35 : decode cX5_load 35 = .ok (.iload_n 2, 1) := by decide +kernel
theorem dX5_load_36 : decode cX5_load 36 = .ok (.ireturn, 1) := by decide +kernel
theorem dX5_shortest_0 : decode cX5_shortest 0 = .ok (.ldc 46, 2) := by decide +kernel
theorem dX5_shortest_2 : decode cX5_shortest 2 = .ok (.istore_n 2, 1) := by decide +kernel
theorem dX5_shortest_3 : decode cX5_shortest 3 = .ok (.iconst 0, 1) := by decide +kernel
theorem dX5_shortest_4 : decode cX5_shortest 4 = .ok (.istore_n 3, 1) := by decide +kernel
theorem dX5_shortest_5 : decode cX5_shortest 5 = .ok (.iload_n 3, 1) := by decide +kernel
theorem dX5_shortest_6 : decode cX5_shortest 6 = .ok (.aload_n 0, 1) := by decide +kernel
theorem dX5_shortest_7 : decode cX5_shortest 7 = .ok (.getfield 42, 3) := by decide +kernel
theorem dX5_shortest_10 : decode cX5_shortest 10 = .ok (.if_icmp .ge 45, 3) := by decide +kernel
theorem dX5_shortest_13 : decode cX5_shortest 13 = .ok (.iload_n 1, 1) := by decide +kernel
theorem dX5_shortest_14 : decode cX5_shortest 14 = .ok (.iload_n 3, 1) := by decide +kernel
theorem dX5_shortest_15 : decode cX5_shortest 15 = .ok (.invokestatic 104, 3) := by decide +kernel
theorem dX5_shortest_18 : decode cX5_shortest 18 = .ok (.ifCond .eq 31, 3) := by decide +kernel
theorem dX5_shortest_21 : decode cX5_shortest 21 = .ok (.aload_n 0, 1) := by decide +kernel
theorem dX5_shortest_22 : decode cX5_shortest 22 = .ok (.iload_n 1, 1) := by decide +kernel
theorem dX5_shortest_23 : decode cX5_shortest 23 = .ok (.iload_n 3, 1) := by decide +kernel
theorem dX5_shortest_24 : decode cX5_shortest 24 = .ok (.invokevirtual 108, 3) := by decide +kernel
theorem dX5_shortest_27 : decode cX5_shortest 27 = .ok (.istore 4, 2) := by decide +kernel
theorem dX5_shortest_29 : decode cX5_shortest 29 = .ok (.aload_n 0, 1) := by decide +kernel
theorem dX5_shortest_30 : decode cX5_shortest 30 = .ok (.getfield 26, 3) := by decide +kernel
theorem dX5_shortest_33 : decode cX5_shortest 33 = .ok (.iload_n 1, 1) := by decide +kernel
theorem dX5_shortest_34 : decode cX5_shortest 34 = .ok (.bipush 10, 2) := by decide +kernel
theorem dX5_shortest_36 : decode cX5_shortest 36 = .ok (.imul, 1) := by decide +kernel
theorem dX5_shortest_37 : decode cX5_shortest 37 = .ok (.iload_n 3, 1) := by decide +kernel
theorem dX5_shortest_38 : decode cX5_shortest 38 = .ok (.iadd, 1) := by decide +kernel
theorem dX5_shortest_39 : decode cX5_shortest 39 = .ok (.iload 4, 2) := by decide +kernel
theorem dX5_shortest_41 : decode cX5_shortest 41 = .ok (.iastore, 1) := by decide +kernel
theorem dX5_shortest_42 : decode cX5_shortest 42 = .ok (.iload_n 2, 1) := by decide +kernel
theorem dX5_shortest_43 : decode cX5_shortest 43 = .ok (.iload 4, 2) := by decide +kernel
theorem dX5_shortest_45 : decode cX5_shortest 45 = .ok (.invokestatic 112, 3) := by decide +kernel
theorem dX5_shortest_48 : decode cX5_shortest 48 = .ok (.istore_n 2, 1) := by decide +kernel
theorem dX5_shortest_49 : decode cX5_shortest 49 = .ok (.iinc 3 1, 3) := by decide +kernel
theorem dX5_shortest_52 : decode cX5_shortest 52 = .ok (.goto (-47), 3) := by decide +kernel
theorem dX5_shortest_55 : decode cX5_shortest 55 = .ok (.iload_n 2, 1) := by decide +kernel
theorem dX5_shortest_56 : decode cX5_shortest 56 = .ok (.ireturn, 1) := by decide +kernel
theorem dX5_shortestFrom_0 : decode cX5_shortestFrom 0 = .ok (.iload_n 1, 1) := by decide +kernel
theorem dX5_shortestFrom_1 : decode cX5_shortestFrom 1 = .ok (.iconst 1, 1) := by decide +kernel
theorem dX5_shortestFrom_2 : decode cX5_shortestFrom 2 = .ok (.iload_n 2, 1) := by decide +kernel
theorem dX5_shortestFrom_3 : decode cX5_shortestFrom 3 = .ok (.ishl, 1) := by decide +kernel
theorem dX5_shortestFrom_4 : decode cX5_shortestFrom 4 = .ok (.iconst (-1), 1) := by decide +kernel
theorem dX5_shortestFrom_5 : decode cX5_shortestFrom 5 = .ok (.ixor, 1) := by decide +kernel
theorem dX5_shortestFrom_6 : decode cX5_shortestFrom 6 = .ok (.iand, 1) := by decide +kernel
theorem dX5_shortestFrom_7 : decode cX5_shortestFrom 7 = .ok (.istore_n 3, 1) := by decide +kernel
theorem dX5_shortestFrom_8 : decode cX5_shortestFrom 8 = .ok (.iload_n 3, 1) := by decide +kernel
theorem dX5_shortestFrom_9 : decode cX5_shortestFrom 9 = .ok (.ifCond .ne 12, 3) := by decide +kernel
theorem dX5_shortestFrom_12 : decode cX5_shortestFrom 12 = .ok (.aload_n 0, 1) := by decide +kernel
theorem dX5_shortestFrom_13 : decode cX5_shortestFrom 13 = .ok (.getfield 18, 3) := by decide +kernel
theorem dX5_shortestFrom_16 : decode cX5_shortestFrom 16 = .ok (.iload_n 2, 1) := by decide +kernel
theorem dX5_shortestFrom_17 : decode cX5_shortestFrom 17 = .ok (.iaload, 1) := by decide +kernel
theorem dX5_shortestFrom_18 : decode cX5_shortestFrom 18 = .ok (.goto 5, 3) := by decide +kernel
theorem dX5_shortestFrom_21 : decode cX5_shortestFrom 21 = .ok (.ldc 46, 2) := by decide +kernel
theorem dX5_shortestFrom_23 : decode cX5_shortestFrom 23 = .ok (.istore 4, 2) := by decide +kernel
theorem dX5_shortestFrom_25 : decode cX5_shortestFrom 25 = .ok (.iconst 0, 1) := by decide +kernel
theorem dX5_shortestFrom_26 : decode cX5_shortestFrom 26 = .ok (.istore 5, 2) := by decide +kernel
theorem dX5_shortestFrom_28 : decode cX5_shortestFrom 28 = .ok (.iload 5, 2) := by decide +kernel
theorem dX5_shortestFrom_30 : decode cX5_shortestFrom 30 = .ok (.aload_n 0, 1) := by decide +kernel
theorem dX5_shortestFrom_31 : decode cX5_shortestFrom 31 = .ok (.getfield 42, 3) := by decide +kernel
theorem dX5_shortestFrom_34 : decode cX5_shortestFrom 34 = .ok (.if_icmp .ge 47, 3) := by decide +kernel
theorem dX5_shortestFrom_37 : decode cX5_shortestFrom 37 = .ok (.iload_n 3, 1) := by decide +kernel
theorem dX5_shortestFrom_38 : decode cX5_shortestFrom 38 = .ok (.iload 5, 2) := by decide +kernel
theorem dX5_shortestFrom_40 : decode cX5_shortestFrom 40 = .ok (.invokestatic 104, 3) := by decide +kernel
theorem dX5_shortestFrom_43 : decode cX5_shortestFrom 43 = .ok (.ifCond .eq 32, 3) := by decide +kernel
theorem dX5_shortestFrom_46 : decode cX5_shortestFrom 46 = .ok (.iload 4, 2) := by decide +kernel
theorem dX5_shortestFrom_48 : decode cX5_shortestFrom 48 = .ok (.aload_n 0, 1) := by decide +kernel
theorem dX5_shortestFrom_49 : decode cX5_shortestFrom 49 = .ok (.getfield 23, 3) := by decide +kernel
theorem dX5_shortestFrom_52 : decode cX5_shortestFrom 52 = .ok (.iload_n 2, 1) := by decide +kernel
theorem dX5_shortestFrom_53 : decode cX5_shortestFrom 53 = .ok (.aaload, 1) := by decide +kernel
theorem dX5_shortestFrom_54 : decode cX5_shortestFrom 54 = .ok (.iload 5, 2) := by decide +kernel
theorem dX5_shortestFrom_56 : decode cX5_shortestFrom 56 = .ok (.iaload, 1) := by decide +kernel
theorem dX5_shortestFrom_57 : decode cX5_shortestFrom 57 = .ok (.aload_n 0, 1) := by decide +kernel
theorem dX5_shortestFrom_58 : decode cX5_shortestFrom 58 = .ok (.getfield 26, 3) := by decide +kernel
theorem dX5_shortestFrom_61 : decode cX5_shortestFrom 61 = .ok (.iload_n 3, 1) := by decide +kernel
theorem dX5_shortestFrom_62 : decode cX5_shortestFrom 62 = .ok (.bipush 10, 2) := by decide +kernel
theorem dX5_shortestFrom_64 : decode cX5_shortestFrom 64 = .ok (.imul, 1) := by decide +kernel
theorem dX5_shortestFrom_65 : decode cX5_shortestFrom 65 = .ok (.iload 5, 2) := by decide +kernel
theorem dX5_shortestFrom_67 : decode cX5_shortestFrom 67 = .ok (.iadd, 1) := by decide +kernel
theorem dX5_shortestFrom_68 : decode cX5_shortestFrom 68 = .ok (.iaload, 1) := by decide +kernel
theorem dX5_shortestFrom_69 : decode cX5_shortestFrom 69 = .ok (.iadd, 1) := by decide +kernel
theorem dX5_shortestFrom_70 : decode cX5_shortestFrom 70 = .ok (.invokestatic 112, 3) := by decide +kernel
theorem dX5_shortestFrom_73 : decode cX5_shortestFrom 73 = .ok (.istore 4, 2) := by decide +kernel
theorem dX5_shortestFrom_75 : decode cX5_shortestFrom 75 = .ok (.iinc 5 1, 3) := by decide +kernel
theorem dX5_shortestFrom_78 : decode cX5_shortestFrom 78 = .ok (.goto (-50), 3) := by decide +kernel
theorem dX5_shortestFrom_81 : decode cX5_shortestFrom 81 = .ok (.ldc 46, 2) := by decide +kernel
theorem dX5_shortestFrom_83 : decode cX5_shortestFrom 83 = .ok (.iconst 1, 1) := by decide +kernel
theorem dX5_shortestFrom_84 : decode cX5_shortestFrom 84 = .ok (.iload 4, 2) := by decide +kernel
theorem dX5_shortestFrom_86 : decode cX5_shortestFrom 86 = .ok (.iadd, 1) := by decide +kernel
theorem dX5_shortestFrom_87 : decode cX5_shortestFrom 87 = .ok (.invokestatic 112, 3) := by decide +kernel
theorem dX5_shortestFrom_90 : decode cX5_shortestFrom 90 = .ok (.ireturn, 1) := by decide +kernel
theorem dX5_part_0 : decode cX5_part 0 = .ok (.iload_n 1, 1) := by decide +kernel
theorem dX5_part_1 : decode cX5_part 1 = .ok (.iload_n 1, 1) := by decide +kernel
theorem dX5_part_2 : decode cX5_part 2 = .ok (.ineg, 1) := by decide +kernel
theorem dX5_part_3 : decode cX5_part 3 = .ok (.iand, 1) := by decide +kernel
theorem dX5_part_4 : decode cX5_part 4 = .ok (.istore_n 2, 1) := by decide +kernel
theorem dX5_part_5 : decode cX5_part 5 = .ok (.iload_n 1, 1) := by decide +kernel
theorem dX5_part_6 : decode cX5_part 6 = .ok (.iload_n 2, 1) := by decide +kernel
theorem dX5_part_7 : decode cX5_part 7 = .ok (.ixor, 1) := by decide +kernel
theorem dX5_part_8 : decode cX5_part 8 = .ok (.istore_n 3, 1) := by decide +kernel
theorem dX5_part_9 : decode cX5_part 9 = .ok (.aload_n 0, 1) := by decide +kernel
theorem dX5_part_10 : decode cX5_part 10 = .ok (.getfield 32, 3) := by decide +kernel
theorem dX5_part_13 : decode cX5_part 13 = .ok (.iload_n 1, 1) := by decide +kernel
theorem dX5_part_14 : decode cX5_part 14 = .ok (.ldc 46, 2) := by decide +kernel
theorem dX5_part_16 : decode cX5_part 16 = .ok (.iastore, 1) := by decide +kernel
theorem dX5_part_17 : decode cX5_part 17 = .ok (.aload_n 0, 1) := by decide +kernel
theorem dX5_part_18 : decode cX5_part 18 = .ok (.getfield 35, 3) := by decide +kernel
theorem dX5_part_21 : decode cX5_part 21 = .ok (.iload_n 1, 1) := by decide +kernel
theorem dX5_part_22 : decode cX5_part 22 = .ok (.iconst 0, 1) := by decide +kernel
theorem dX5_part_23 : decode cX5_part 23 = .ok (.iastore, 1) := by decide +kernel
theorem dX5_part_24 : decode cX5_part 24 = .ok (.iload_n 3, 1) := by decide +kernel
theorem dX5_part_25 : decode cX5_part 25 = .ok (.istore 4, 2) := by decide +kernel
theorem dX5_part_27 : decode cX5_part 27 = .ok (.iload 4, 2) := by decide +kernel
theorem dX5_part_29 : decode cX5_part 29 = .ok (.ifCond .lt 91, 3) := by decide +kernel
theorem dX5_part_32 : decode cX5_part 32 = .ok (.iload_n 2, 1) := by decide +kernel
theorem dX5_part_33 : decode cX5_part 33 = .ok (.iload 4, 2) := by decide +kernel
theorem dX5_part_35 : decode cX5_part 35 = .ok (.ior, 1) := by decide +kernel
theorem dX5_part_36 : decode cX5_part 36 = .ok (.istore 5, 2) := by decide +kernel
theorem dX5_part_38 : decode cX5_part 38 = .ok (.aload_n 0, 1) := by decide +kernel
theorem dX5_part_39 : decode cX5_part 39 = .ok (.getfield 29, 3) := by decide +kernel
theorem dX5_part_42 : decode cX5_part 42 = .ok (.iload 5, 2) := by decide +kernel
theorem dX5_part_44 : decode cX5_part 44 = .ok (.iaload, 1) := by decide +kernel
theorem dX5_part_45 : decode cX5_part 45 = .ok (.ldc 46, 2) := by decide +kernel
theorem dX5_part_47 : decode cX5_part 47 = .ok (.if_icmp .ge 53, 3) := by decide +kernel
theorem dX5_part_50 : decode cX5_part 50 = .ok (.sipush 10000, 3) := by decide +kernel
theorem dX5_part_53 : decode cX5_part 53 = .ok (.aload_n 0, 1) := by decide +kernel
theorem dX5_part_54 : decode cX5_part 54 = .ok (.getfield 29, 3) := by decide +kernel
theorem dX5_part_57 : decode cX5_part 57 = .ok (.iload 5, 2) := by decide +kernel
theorem dX5_part_59 : decode cX5_part 59 = .ok (.iaload, 1) := by decide +kernel
theorem dX5_part_60 : decode cX5_part 60 = .ok (.iadd, 1) := by decide +kernel
theorem dX5_part_61 : decode cX5_part 61 = .ok (.aload_n 0, 1) := by decide +kernel
theorem dX5_part_62 : decode cX5_part 62 = .ok (.getfield 32, 3) := by decide +kernel
theorem dX5_part_65 : decode cX5_part 65 = .ok (.iload_n 1, 1) := by decide +kernel
theorem dX5_part_66 : decode cX5_part 66 = .ok (.iload 5, 2) := by decide +kernel
theorem dX5_part_68 : decode cX5_part 68 = .ok (.ixor, 1) := by decide +kernel
theorem dX5_part_69 : decode cX5_part 69 = .ok (.iaload, 1) := by decide +kernel
theorem dX5_part_70 : decode cX5_part 70 = .ok (.iadd, 1) := by decide +kernel
theorem dX5_part_71 : decode cX5_part 71 = .ok (.istore 6, 2) := by decide +kernel
theorem dX5_part_73 : decode cX5_part 73 = .ok (.iload 6, 2) := by decide +kernel
theorem dX5_part_75 : decode cX5_part 75 = .ok (.aload_n 0, 1) := by decide +kernel
theorem dX5_part_76 : decode cX5_part 76 = .ok (.getfield 32, 3) := by decide +kernel
theorem dX5_part_79 : decode cX5_part 79 = .ok (.iload_n 1, 1) := by decide +kernel
theorem dX5_part_80 : decode cX5_part 80 = .ok (.iaload, 1) := by decide +kernel
theorem dX5_part_81 : decode cX5_part 81 = .ok (.if_icmp .gt 19, 3) := by decide +kernel
theorem dX5_part_84 : decode cX5_part 84 = .ok (.aload_n 0, 1) := by decide +kernel
theorem dX5_part_85 : decode cX5_part 85 = .ok (.getfield 32, 3) := by decide +kernel
theorem dX5_part_88 : decode cX5_part 88 = .ok (.iload_n 1, 1) := by decide +kernel
theorem dX5_part_89 : decode cX5_part 89 = .ok (.iload 6, 2) := by decide +kernel
theorem dX5_part_91 : decode cX5_part 91 = .ok (.iastore, 1) := by decide +kernel
theorem dX5_part_92 : decode cX5_part 92 = .ok (.aload_n 0, 1) := by decide +kernel
theorem dX5_part_93 : decode cX5_part 93 = .ok (.getfield 35, 3) := by decide +kernel
theorem dX5_part_96 : decode cX5_part 96 = .ok (.iload_n 1, 1) := by decide +kernel
theorem dX5_part_97 : decode cX5_part 97 = .ok (.iload 5, 2) := by decide +kernel
theorem dX5_part_99 : decode cX5_part 99 = .ok (.iastore, 1) := by decide +kernel
theorem dX5_part_100 : decode cX5_part 100 = .ok (.iload 4, 2) := by decide +kernel
theorem dX5_part_102 : decode cX5_part 102 = .ok (.ifCond .ne 7, 3) := by decide +kernel
theorem dX5_part_105 : decode cX5_part 105 = .ok (.iconst (-1), 1) := by decide +kernel
theorem dX5_part_106 : decode cX5_part 106 = .ok (.goto 9, 3) := by decide +kernel
theorem dX5_part_109 : decode cX5_part 109 = .ok (.iload 4, 2) := by decide +kernel
theorem dX5_part_111 : decode cX5_part 111 = .ok (.iconst 1, 1) := by decide +kernel
theorem dX5_part_112 : decode cX5_part 112 = .ok (.isub, 1) := by decide +kernel
theorem dX5_part_113 : decode cX5_part 113 = .ok (.iload_n 3, 1) := by decide +kernel
theorem dX5_part_114 : decode cX5_part 114 = .ok (.iand, 1) := by decide +kernel
theorem dX5_part_115 : decode cX5_part 115 = .ok (.istore 4, 2) := by decide +kernel
theorem dX5_part_117 : decode cX5_part 117 = .ok (.goto (-90), 3) := by decide +kernel
theorem dX5_part_120 : decode cX5_part 120 = .ok (.return_, 1) := by decide +kernel
theorem dX5_record_0 : decode cX5_record 0 = .ok (.aload_n 1, 1) := by decide +kernel
theorem dX5_record_1 : decode cX5_record 1 = .ok (.aload_n 0, 1) := by decide +kernel
theorem dX5_record_2 : decode cX5_record 2 = .ok (.getfield 32, 3) := by decide +kernel
theorem dX5_record_5 : decode cX5_record 5 = .ok (.iload_n 2, 1) := by decide +kernel
theorem dX5_record_6 : decode cX5_record 6 = .ok (.iaload, 1) := by decide +kernel
theorem dX5_record_7 : decode cX5_record 7 = .ok (.ldc 46, 2) := by decide +kernel
theorem dX5_record_9 : decode cX5_record 9 = .ok (.if_icmp .ge 7, 3) := by decide +kernel
theorem dX5_record_12 : decode cX5_record 12 = .ok (.iconst 1, 1) := by decide +kernel
theorem dX5_record_13 : decode cX5_record 13 = .ok (.goto 4, 3) := by decide +kernel
theorem dX5_record_16 : decode cX5_record 16 = .ok (.iconst 0, 1) := by decide +kernel
theorem dX5_record_17 : decode cX5_record 17 = .ok (.putfield 117, 3) := by decide +kernel
theorem dX5_record_20 : decode cX5_record 20 = .ok (.aload_n 1, 1) := by decide +kernel
theorem dX5_record_21 : decode cX5_record 21 = .ok (.iconst 0, 1) := by decide +kernel
theorem dX5_record_22 : decode cX5_record 22 = .ok (.putfield 121, 3) := by decide +kernel
theorem dX5_record_25 : decode cX5_record 25 = .ok (.aload_n 1, 1) := by decide +kernel
theorem dX5_record_26 : decode cX5_record 26 = .ok (.getfield 124, 3) := by decide +kernel
theorem dX5_record_29 : decode cX5_record 29 = .ok (.iconst 0, 1) := by decide +kernel
theorem dX5_record_30 : decode cX5_record 30 = .ok (.iconst 0, 1) := by decide +kernel
theorem dX5_record_31 : decode cX5_record 31 = .ok (.iastore, 1) := by decide +kernel
theorem dX5_record_32 : decode cX5_record 32 = .ok (.aload_n 1, 1) := by decide +kernel
theorem dX5_record_33 : decode cX5_record 33 = .ok (.getfield 117, 3) := by decide +kernel
theorem dX5_record_36 : decode cX5_record 36 = .ok (.ifCond .eq 7, 3) := by decide +kernel
theorem dX5_record_39 : decode cX5_record 39 = .ok (.iload_n 2, 1) := by decide +kernel
theorem dX5_record_40 : decode cX5_record 40 = .ok (.goto 4, 3) := by decide +kernel
theorem dX5_record_43 : decode cX5_record 43 = .ok (.iconst 0, 1) := by decide +kernel
theorem dX5_record_44 : decode cX5_record 44 = .ok (.istore_n 3, 1) := by decide +kernel
theorem dX5_record_45 : decode cX5_record 45 = .ok (.iconst 0, 1) := by decide +kernel
theorem dX5_record_46 : decode cX5_record 46 = .ok (.istore 4, 2) := by decide +kernel
theorem dX5_record_48 : decode cX5_record 48 = .ok (.iload 4, 2) := by decide +kernel
theorem dX5_record_50 : decode cX5_record 50 = .ok (.bipush 10, 2) := by decide +kernel
theorem dX5_record_52 : decode cX5_record 52 = .ok (.if_icmp .ge 33, 3) := by decide +kernel
theorem dX5_record_55 : decode cX5_record 55 = .ok (.iload_n 3, 1) := by decide +kernel
theorem dX5_record_56 : decode cX5_record 56 = .ok (.ifCond .eq 29, 3) := by decide +kernel
theorem dX5_record_59 : decode cX5_record 59 = .ok (.aload_n 0, 1) := by decide +kernel
theorem dX5_record_60 : decode cX5_record 60 = .ok (.aload_n 1, 1) := by decide +kernel
theorem dX5_record_61 : decode cX5_record 61 = .ok (.aload_n 0, 1) := by decide +kernel
theorem dX5_record_62 : decode cX5_record 62 = .ok (.getfield 35, 3) := by decide +kernel
theorem dX5_record_65 : decode cX5_record 65 = .ok (.iload_n 3, 1) := by decide +kernel
theorem dX5_record_66 : decode cX5_record 66 = .ok (.iaload, 1) := by decide +kernel
theorem dX5_record_67 : decode cX5_record 67 = .ok (.invokevirtual 127, 3) := by decide +kernel
theorem dX5_record_70 : decode cX5_record 70 = .ok (.iload_n 3, 1) := by decide +kernel
theorem dX5_record_71 : decode cX5_record 71 = .ok (.aload_n 0, 1) := by decide +kernel
theorem dX5_record_72 : decode cX5_record 72 = .ok (.getfield 35, 3) := by decide +kernel
theorem dX5_record_75 : decode cX5_record 75 = .ok (.iload_n 3, 1) := by decide +kernel
theorem dX5_record_76 : decode cX5_record 76 = .ok (.iaload, 1) := by decide +kernel
theorem dX5_record_77 : decode cX5_record 77 = .ok (.ixor, 1) := by decide +kernel
theorem dX5_record_78 : decode cX5_record 78 = .ok (.istore_n 3, 1) := by decide +kernel
theorem dX5_record_79 : decode cX5_record 79 = .ok (.iinc 4 1, 3) := by decide +kernel
theorem dX5_record_82 : decode cX5_record 82 = .ok (.goto (-34), 3) := by decide +kernel
theorem dX5_record_85 : decode cX5_record 85 = .ok (.return_, 1) := by decide +kernel
theorem dX5_recordRoute_0 : decode cX5_recordRoute 0 = .ok (.aload_n 1, 1) := by decide +kernel
theorem dX5_recordRoute_1 : decode cX5_recordRoute 1 = .ok (.getfield 124, 3) := by decide +kernel
theorem dX5_recordRoute_4 : decode cX5_recordRoute 4 = .ok (.aload_n 1, 1) := by decide +kernel
theorem dX5_recordRoute_5 : decode cX5_recordRoute 5 = .ok (.getfield 121, 3) := by decide +kernel
theorem dX5_recordRoute_8 : decode cX5_recordRoute 8 = .ok (.iaload, 1) := by decide +kernel
theorem dX5_recordRoute_9 : decode cX5_recordRoute 9 = .ok (.istore_n 3, 1) := by decide +kernel
theorem dX5_recordRoute_10 : decode cX5_recordRoute 10 = .ok (.iload_n 2, 1) := by decide +kernel
theorem dX5_recordRoute_11 : decode cX5_recordRoute 11 = .ok (.istore 4, 2) := by decide +kernel
theorem dX5_recordRoute_13 : decode cX5_recordRoute 13 = .ok (.aload_n 0, 1) := by decide +kernel
theorem dX5_recordRoute_14 : decode cX5_recordRoute 14 = .ok (.iload 4, 2) := by decide +kernel
theorem dX5_recordRoute_16 : decode cX5_recordRoute 16 = .ok (.iconst (-1), 1) := by decide +kernel
theorem dX5_recordRoute_17 : decode cX5_recordRoute 17 = .ok (.aload_n 0, 1) := by decide +kernel
theorem dX5_recordRoute_18 : decode cX5_recordRoute 18 = .ok (.getfield 29, 3) := by decide +kernel
theorem dX5_recordRoute_21 : decode cX5_recordRoute 21 = .ok (.iload_n 2, 1) := by decide +kernel
theorem dX5_recordRoute_22 : decode cX5_recordRoute 22 = .ok (.iaload, 1) := by decide +kernel
theorem dX5_recordRoute_23 : decode cX5_recordRoute 23 = .ok (.invokevirtual 130, 3) := by decide +kernel
theorem dX5_recordRoute_26 : decode cX5_recordRoute 26 = .ok (.istore 5, 2) := by decide +kernel
theorem dX5_recordRoute_28 : decode cX5_recordRoute 28 = .ok (.iload 4, 2) := by decide +kernel
theorem dX5_recordRoute_30 : decode cX5_recordRoute 30 = .ok (.ifCond .eq 73, 3) := by decide +kernel
theorem dX5_recordRoute_33 : decode cX5_recordRoute 33 = .ok (.iload 5, 2) := by decide +kernel
theorem dX5_recordRoute_35 : decode cX5_recordRoute 35 = .ok (.ifCond .lt 68, 3) := by decide +kernel
theorem dX5_recordRoute_38 : decode cX5_recordRoute 38 = .ok (.iload_n 3, 1) := by decide +kernel
theorem dX5_recordRoute_39 : decode cX5_recordRoute 39 = .ok (.bipush 10, 2) := by decide +kernel
theorem dX5_recordRoute_41 : decode cX5_recordRoute 41 = .ok (.if_icmp .ge 62, 3) := by decide +kernel
theorem dX5_recordRoute_44 : decode cX5_recordRoute 44 = .ok (.aload_n 1, 1) := by decide +kernel
theorem dX5_recordRoute_45 : decode cX5_recordRoute 45 = .ok (.getfield 134, 3) := by decide +kernel
theorem dX5_recordRoute_48 : decode cX5_recordRoute 48 = .ok (.iload_n 3, 1) := by decide +kernel
theorem dX5_recordRoute_49 : decode cX5_recordRoute 49 = .ok (.aload_n 0, 1) := by decide +kernel
theorem dX5_recordRoute_50 : decode cX5_recordRoute 50 = .ok (.getfield 9, 3) := by decide +kernel
theorem dX5_recordRoute_53 : decode cX5_recordRoute 53 = .ok (.iload 5, 2) := by decide +kernel
theorem dX5_recordRoute_55 : decode cX5_recordRoute 55 = .ok (.iaload, 1) := by decide +kernel
theorem dX5_recordRoute_56 : decode cX5_recordRoute 56 = .ok (.iastore, 1) := by decide +kernel
theorem dX5_recordRoute_57 : decode cX5_recordRoute 57 = .ok (.iinc 3 1, 3) := by decide +kernel
theorem dX5_recordRoute_60 : decode cX5_recordRoute 60 = .ok (.iload 4, 2) := by decide +kernel
theorem dX5_recordRoute_62 : decode cX5_recordRoute 62 = .ok (.iconst 1, 1) := by decide +kernel
theorem dX5_recordRoute_63 : decode cX5_recordRoute 63 = .ok (.iload 5, 2) := by decide +kernel
theorem dX5_recordRoute_65 : decode cX5_recordRoute 65 = .ok (.ishl, 1) := by decide +kernel
theorem dX5_recordRoute_66 : decode cX5_recordRoute 66 = .ok (.iconst (-1), 1) := by decide +kernel
theorem dX5_recordRoute_67 : decode cX5_recordRoute 67 = .ok (.ixor, 1) := by decide +kernel
theorem dX5_recordRoute_68 : decode cX5_recordRoute 68 = .ok (.iand, 1) := by decide +kernel
theorem dX5_recordRoute_69 : decode cX5_recordRoute 69 = .ok (.istore 6, 2) := by decide +kernel
theorem dX5_recordRoute_71 : decode cX5_recordRoute 71 = .ok (.aload_n 0, 1) := by decide +kernel
theorem dX5_recordRoute_72 : decode cX5_recordRoute 72 = .ok (.iload 6, 2) := by decide +kernel
theorem dX5_recordRoute_74 : decode cX5_recordRoute 74 = .ok (.iload 5, 2) := by decide +kernel
theorem dX5_recordRoute_76 : decode cX5_recordRoute 76 = .ok (.aload_n 0, 1) := by decide +kernel
theorem dX5_recordRoute_77 : decode cX5_recordRoute 77 = .ok (.getfield 26, 3) := by decide +kernel
theorem dX5_recordRoute_80 : decode cX5_recordRoute 80 = .ok (.iload 4, 2) := by decide +kernel
theorem dX5_recordRoute_82 : decode cX5_recordRoute 82 = .ok (.bipush 10, 2) := by decide +kernel
theorem dX5_recordRoute_84 : decode cX5_recordRoute 84 = .ok (.imul, 1) := by decide +kernel
theorem dX5_recordRoute_85 : decode cX5_recordRoute 85 = .ok (.iload 5, 2) := by decide +kernel
theorem dX5_recordRoute_87 : decode cX5_recordRoute 87 = .ok (.iadd, 1) := by decide +kernel
theorem dX5_recordRoute_88 : decode cX5_recordRoute 88 = .ok (.iaload, 1) := by decide +kernel
theorem dX5_recordRoute_89 : decode cX5_recordRoute 89 = .ok (.iconst 1, 1) := by decide +kernel
theorem dX5_recordRoute_90 : decode cX5_recordRoute 90 = .ok (.isub, 1) := by decide +kernel
theorem dX5_recordRoute_91 : decode cX5_recordRoute 91 = .ok (.invokevirtual 130, 3) := by decide +kernel
theorem dX5_recordRoute_94 : decode cX5_recordRoute 94 = .ok (.istore 5, 2) := by decide +kernel
theorem dX5_recordRoute_96 : decode cX5_recordRoute 96 = .ok (.iload 6, 2) := by decide +kernel
theorem dX5_recordRoute_98 : decode cX5_recordRoute 98 = .ok (.istore 4, 2) := by decide +kernel
theorem dX5_recordRoute_100 : decode cX5_recordRoute 100 = .ok (.goto (-72), 3) := by decide +kernel
theorem dX5_recordRoute_103 : decode cX5_recordRoute 103 = .ok (.aload_n 1, 1) := by decide +kernel
theorem dX5_recordRoute_104 : decode cX5_recordRoute 104 = .ok (.getfield 137, 3) := by decide +kernel
theorem dX5_recordRoute_107 : decode cX5_recordRoute 107 = .ok (.aload_n 1, 1) := by decide +kernel
theorem dX5_recordRoute_108 : decode cX5_recordRoute 108 = .ok (.getfield 121, 3) := by decide +kernel
theorem dX5_recordRoute_111 : decode cX5_recordRoute 111 = .ok (.aload_n 0, 1) := by decide +kernel
theorem dX5_recordRoute_112 : decode cX5_recordRoute 112 = .ok (.getfield 29, 3) := by decide +kernel
theorem dX5_recordRoute_115 : decode cX5_recordRoute 115 = .ok (.iload_n 2, 1) := by decide +kernel
theorem dX5_recordRoute_116 : decode cX5_recordRoute 116 = .ok (.iaload, 1) := by decide +kernel
theorem dX5_recordRoute_117 : decode cX5_recordRoute 117 = .ok (.iastore, 1) := by decide +kernel
theorem dX5_recordRoute_118 : decode cX5_recordRoute 118 = .ok (.aload_n 1, 1) := by decide +kernel
theorem dX5_recordRoute_119 : decode cX5_recordRoute 119 = .ok (.dup, 1) := by decide +kernel
theorem dX5_recordRoute_120 : decode cX5_recordRoute 120 = .ok (.getfield 121, 3) := by decide +kernel
theorem dX5_recordRoute_123 : decode cX5_recordRoute 123 = .ok (.iconst 1, 1) := by decide +kernel
theorem dX5_recordRoute_124 : decode cX5_recordRoute 124 = .ok (.iadd, 1) := by decide +kernel
theorem dX5_recordRoute_125 : decode cX5_recordRoute 125 = .ok (.putfield 121, 3) := by decide +kernel
theorem dX5_recordRoute_128 : decode cX5_recordRoute 128 = .ok (.aload_n 1, 1) := by decide +kernel
theorem dX5_recordRoute_129 : decode cX5_recordRoute 129 = .ok (.getfield 124, 3) := by decide +kernel
theorem dX5_recordRoute_132 : decode cX5_recordRoute 132 = .ok (.aload_n 1, 1) := by decide +kernel
theorem dX5_recordRoute_133 : decode cX5_recordRoute 133 = .ok (.getfield 121, 3) := by decide +kernel
theorem dX5_recordRoute_136 : decode cX5_recordRoute 136 = .ok (.iload_n 3, 1) := by decide +kernel
theorem dX5_recordRoute_137 : decode cX5_recordRoute 137 = .ok (.iastore, 1) := by decide +kernel
theorem dX5_recordRoute_138 : decode cX5_recordRoute 138 = .ok (.return_, 1) := by decide +kernel
theorem dX5_firstWith_0 : decode cX5_firstWith 0 = .ok (.iconst 0, 1) := by decide +kernel
theorem dX5_firstWith_1 : decode cX5_firstWith 1 = .ok (.istore 4, 2) := by decide +kernel
theorem dX5_firstWith_3 : decode cX5_firstWith 3 = .ok (.iload 4, 2) := by decide +kernel
theorem dX5_firstWith_5 : decode cX5_firstWith 5 = .ok (.aload_n 0, 1) := by decide +kernel
theorem dX5_firstWith_6 : decode cX5_firstWith 6 = .ok (.getfield 42, 3) := by decide +kernel
theorem dX5_firstWith_9 : decode cX5_firstWith 9 = .ok (.if_icmp .ge 59, 3) := by decide +kernel
theorem dX5_firstWith_12 : decode cX5_firstWith 12 = .ok (.iload_n 1, 1) := by decide +kernel
theorem dX5_firstWith_13 : decode cX5_firstWith 13 = .ok (.iload 4, 2) := by decide +kernel
theorem dX5_firstWith_15 : decode cX5_firstWith 15 = .ok (.invokestatic 104, 3) := by decide +kernel
theorem dX5_firstWith_18 : decode cX5_firstWith 18 = .ok (.ifCond .eq 44, 3) := by decide +kernel
theorem dX5_firstWith_21 : decode cX5_firstWith 21 = .ok (.iload_n 2, 1) := by decide +kernel
theorem dX5_firstWith_22 : decode cX5_firstWith 22 = .ok (.ifCond .ge 7, 3) := by decide +kernel
theorem dX5_firstWith_25 : decode cX5_firstWith 25 = .ok (.iconst 0, 1) := by decide +kernel
theorem dX5_firstWith_26 : decode cX5_firstWith 26 = .ok (.goto 12, 3) := by decide +kernel
theorem dX5_firstWith_29 : decode cX5_firstWith 29 = .ok (.aload_n 0, 1) := by decide +kernel
theorem dX5_firstWith_30 : decode cX5_firstWith 30 = .ok (.getfield 23, 3) := by decide +kernel
theorem dX5_firstWith_33 : decode cX5_firstWith 33 = .ok (.iload_n 2, 1) := by decide +kernel
theorem dX5_firstWith_34 : decode cX5_firstWith 34 = .ok (.aaload, 1) := by decide +kernel
theorem dX5_firstWith_35 : decode cX5_firstWith 35 = .ok (.iload 4, 2) := by decide +kernel
theorem dX5_firstWith_37 : decode cX5_firstWith 37 = .ok (.iaload, 1) := by decide +kernel
theorem dX5_firstWith_38 : decode cX5_firstWith 38 = .ok (.istore 5, 2) := by decide +kernel
theorem dX5_firstWith_40 : decode cX5_firstWith 40 = .ok (.iload 5, 2) := by decide +kernel
theorem dX5_firstWith_42 : decode cX5_firstWith 42 = .ok (.aload_n 0, 1) := by decide +kernel
theorem dX5_firstWith_43 : decode cX5_firstWith 43 = .ok (.getfield 26, 3) := by decide +kernel
theorem dX5_firstWith_46 : decode cX5_firstWith 46 = .ok (.iload_n 1, 1) := by decide +kernel
theorem dX5_firstWith_47 : decode cX5_firstWith 47 = .ok (.bipush 10, 2) := by decide +kernel
theorem dX5_firstWith_49 : decode cX5_firstWith 49 = .ok (.imul, 1) := by decide +kernel
theorem dX5_firstWith_50 : decode cX5_firstWith 50 = .ok (.iload 4, 2) := by decide +kernel
theorem dX5_firstWith_52 : decode cX5_firstWith 52 = .ok (.iadd, 1) := by decide +kernel
theorem dX5_firstWith_53 : decode cX5_firstWith 53 = .ok (.iaload, 1) := by decide +kernel
theorem dX5_firstWith_54 : decode cX5_firstWith 54 = .ok (.iadd, 1) := by decide +kernel
theorem dX5_firstWith_55 : decode cX5_firstWith 55 = .ok (.iload_n 3, 1) := by decide +kernel
theorem dX5_firstWith_56 : decode cX5_firstWith 56 = .ok (.if_icmp .ne 6, 3) := by decide +kernel
theorem dX5_firstWith_59 : decode cX5_firstWith 59 = .ok (.iload 4, 2) := by decide +kernel
theorem dX5_firstWith_61 : decode cX5_firstWith 61 = .ok (.ireturn, 1) := by decide +kernel
theorem dX5_firstWith_62 : decode cX5_firstWith 62 = .ok (.iinc 4 1, 3) := by decide +kernel
theorem dX5_firstWith_65 : decode cX5_firstWith 65 = .ok (.goto (-62), 3) := by decide +kernel
theorem dX5_firstWith_68 : decode cX5_firstWith 68 = .ok (.iconst (-1), 1) := by decide +kernel
theorem dX5_firstWith_69 : decode cX5_firstWith 69 = .ok (.ireturn, 1) := by decide +kernel
theorem dX5_has_0 : decode cX5_has 0 = .ok (.iload_n 0, 1) := by decide +kernel
theorem dX5_has_1 : decode cX5_has 1 = .ok (.iload_n 1, 1) := by decide +kernel
theorem dX5_has_2 : decode cX5_has 2 = .ok (.ishr, 1) := by decide +kernel
theorem dX5_has_3 : decode cX5_has 3 = .ok (.iconst 1, 1) := by decide +kernel
theorem dX5_has_4 : decode cX5_has 4 = .ok (.iand, 1) := by decide +kernel
theorem dX5_has_5 : decode cX5_has 5 = .ok (.ifCond .eq 7, 3) := by decide +kernel
theorem dX5_has_8 : decode cX5_has 8 = .ok (.iconst 1, 1) := by decide +kernel
theorem dX5_has_9 : decode cX5_has 9 = .ok (.goto 4, 3) := by decide +kernel
theorem dX5_has_12 : decode cX5_has 12 = .ok (.iconst 0, 1) := by decide +kernel
theorem dX5_has_13 : decode cX5_has 13 = .ok (.ireturn, 1) := by decide +kernel
theorem dX6_init_0 : decode cX6_init 0 = .ok (.aload_n 0, 1) := by decide +kernel
theorem dX6_init_1 : decode cX6_init 1 = .ok (.invokespecial 3, 3) := by decide +kernel
theorem dX6_init_4 : decode cX6_init 4 = .ok (.aload_n 0, 1) := by decide +kernel
theorem dX6_init_5 : decode cX6_init 5 = .ok (.bipush 60, 2) := by decide +kernel
theorem dX6_init_7 : decode cX6_init 7 = .ok (.newarray .int, 2) := by decide +kernel
theorem dX6_init_9 : decode cX6_init 9 = .ok (.putfield 9, 3) := by decide +kernel
theorem dX6_init_12 : decode cX6_init 12 = .ok (.aload_n 0, 1) := by decide +kernel
theorem dX6_init_13 : decode cX6_init 13 = .ok (.bipush 8, 2) := by decide +kernel
theorem dX6_init_15 : decode cX6_init 15 = .ok (.newarray .int, 2) := by decide +kernel
theorem dX6_init_17 : decode cX6_init 17 = .ok (.putfield 15, 3) := by decide +kernel
theorem dX6_init_20 : decode cX6_init 20 = .ok (.aload_n 0, 1) := by decide +kernel
theorem dX6_init_21 : decode cX6_init 21 = .ok (.bipush 8, 2) := by decide +kernel
theorem dX6_init_23 : decode cX6_init 23 = .ok (.newarray .int, 2) := by decide +kernel
theorem dX6_init_25 : decode cX6_init 25 = .ok (.putfield 18, 3) := by decide +kernel
theorem dX6_init_28 : decode cX6_init 28 = .ok (.aload_n 0, 1) := by decide +kernel
theorem dX6_init_29 : decode cX6_init 29 = .ok (.bipush 8, 2) := by decide +kernel
theorem dX6_init_31 : decode cX6_init 31 = .ok (.newarray .int, 2) := by decide +kernel
theorem dX6_init_33 : decode cX6_init 33 = .ok (.putfield 21, 3) := by decide +kernel
theorem dX6_init_36 : decode cX6_init 36 = .ok (.return_, 1) := by decide +kernel
theorem dX6_lengthen_0 : decode cX6_lengthen 0 = .ok (.iconst 0, 1) := by decide +kernel
theorem dX6_lengthen_1 : decode cX6_lengthen 1 = .ok (.istore 4, 2) := by decide +kernel
theorem dX6_lengthen_3 : decode cX6_lengthen 3 = .ok (.iload 4, 2) := by decide +kernel
theorem dX6_lengthen_5 : decode cX6_lengthen 5 = .ok (.iload_n 3, 1) := by decide +kernel
theorem dX6_lengthen_6 : decode cX6_lengthen 6 = .ok (.if_icmp .ge 40, 3) := by decide +kernel
theorem dX6_lengthen_9 : decode cX6_lengthen 9 = .ok (.aload_n 0, 1) := by decide +kernel
theorem dX6_lengthen_10 : decode cX6_lengthen 10 = .ok (.getfield 9, 3) := by decide +kernel
theorem dX6_lengthen_13 : decode cX6_lengthen 13 = .ok (.aload_n 0, 1) := by decide +kernel
theorem dX6_lengthen_14 : decode cX6_lengthen 14 = .ok (.getfield 24, 3) := by decide +kernel
theorem dX6_lengthen_17 : decode cX6_lengthen 17 = .ok (.lload_n 1, 1) := by decide +kernel
theorem dX6_lengthen_18 : decode cX6_lengthen 18 = .ok (.bipush 8, 2) := by decide +kernel
theorem dX6_lengthen_20 : decode cX6_lengthen 20 = .ok (.iload 4, 2) := by decide +kernel
theorem dX6_lengthen_22 : decode cX6_lengthen 22 = .ok (.imul, 1) := by decide +kernel
theorem dX6_lengthen_23 : decode cX6_lengthen 23 = .ok (.lshr, 1) := by decide +kernel
theorem dX6_lengthen_24 : decode cX6_lengthen 24 = .ok (.l2i, 1) := by decide +kernel
theorem dX6_lengthen_25 : decode cX6_lengthen 25 = .ok (.sipush 255, 3) := by decide +kernel
theorem dX6_lengthen_28 : decode cX6_lengthen 28 = .ok (.iand, 1) := by decide +kernel
theorem dX6_lengthen_29 : decode cX6_lengthen 29 = .ok (.iastore, 1) := by decide +kernel
theorem dX6_lengthen_30 : decode cX6_lengthen 30 = .ok (.aload_n 0, 1) := by decide +kernel
theorem dX6_lengthen_31 : decode cX6_lengthen 31 = .ok (.dup, 1) := by decide +kernel
theorem dX6_lengthen_32 : decode cX6_lengthen 32 = .ok (.getfield 24, 3) := by decide +kernel
theorem dX6_lengthen_35 : decode cX6_lengthen 35 = .ok (.iconst 1, 1) := by decide +kernel
theorem dX6_lengthen_36 : decode cX6_lengthen 36 = .ok (.iadd, 1) := by decide +kernel
theorem dX6_lengthen_37 : decode cX6_lengthen 37 = .ok (.putfield 24, 3) := by decide +kernel
theorem dX6_lengthen_40 : decode cX6_lengthen 40 = .ok (.iinc 4 1, 3) := by decide +kernel
theorem dX6_lengthen_43 : decode cX6_lengthen 43 = .ok (.goto (-40), 3) := by decide +kernel
theorem dX6_lengthen_46 : decode cX6_lengthen 46 = .ok (.aload_n 0, 1) := by decide +kernel
theorem dX6_lengthen_47 : decode cX6_lengthen 47 = .ok (.getfield 24, 3) := by decide +kernel
theorem dX6_lengthen_50 : decode cX6_lengthen 50 = .ok (.ireturn, 1) := by decide +kernel
theorem dX6_firstWrong_0 : decode cX6_firstWrong 0 = .ok (.iconst 0, 1) := by decide +kernel
theorem dX6_firstWrong_1 : decode cX6_firstWrong 1 = .ok (.istore_n 1, 1) := by decide +kernel
theorem dX6_firstWrong_2 : decode cX6_firstWrong 2 = .ok (.iload_n 1, 1) := by decide +kernel
theorem dX6_firstWrong_3 : decode cX6_firstWrong 3 = .ok (.aload_n 0, 1) := by decide +kernel
theorem dX6_firstWrong_4 : decode cX6_firstWrong 4 = .ok (.getfield 24, 3) := by decide +kernel
theorem dX6_firstWrong_7 : decode cX6_firstWrong 7 = .ok (.if_icmp .ge 19, 3) := by decide +kernel
theorem dX6_firstWrong_10 : decode cX6_firstWrong 10 = .ok (.aload_n 0, 1) := by decide +kernel
theorem dX6_firstWrong_11 : decode cX6_firstWrong 11 = .ok (.iload_n 1, 1) := by decide +kernel
theorem dX6_firstWrong_12 : decode cX6_firstWrong 12 = .ok (.invokevirtual 28, 3) := by decide +kernel
theorem dX6_firstWrong_15 : decode cX6_firstWrong 15 = .ok (.ifCond .ne 5, 3) := by decide +kernel
theorem dX6_firstWrong_18 : decode cX6_firstWrong 18 = .ok (.iload_n 1, 1) := by decide +kernel
theorem dX6_firstWrong_19 : decode cX6_firstWrong 19 = .ok (.ireturn, 1) := by decide +kernel
theorem dX6_firstWrong_20 : decode cX6_firstWrong 20 = .ok (.iinc 1 1, 3) := by decide +kernel
theorem dX6_firstWrong_23 : decode cX6_firstWrong 23 = .ok (.goto (-21), 3) := by decide +kernel
theorem dX6_firstWrong_26 : decode cX6_firstWrong 26 = .ok (.aload_n 0, 1) := by decide +kernel
theorem dX6_firstWrong_27 : decode cX6_firstWrong 27 = .ok (.getfield 24, 3) := by decide +kernel
theorem dX6_firstWrong_30 : decode cX6_firstWrong 30 = .ok (.iconst 5, 1) := by decide +kernel
theorem dX6_firstWrong_31 : decode cX6_firstWrong 31 = .ok (.irem, 1) := by decide +kernel
theorem dX6_firstWrong_32 : decode cX6_firstWrong 32 = .ok (.ifCond .ne 7, 3) := by decide +kernel
theorem dX6_firstWrong_35 : decode cX6_firstWrong 35 = .ok (.iconst (-1), 1) := by decide +kernel
theorem dX6_firstWrong_36 : decode cX6_firstWrong 36 = .ok (.goto 7, 3) := by decide +kernel
theorem dX6_firstWrong_39 : decode cX6_firstWrong 39 = .ok (.aload_n 0, 1) := by decide +kernel
theorem dX6_firstWrong_40 : decode cX6_firstWrong 40 = .ok (.getfield 24, 3) := by decide +kernel
theorem dX6_firstWrong_43 : decode cX6_firstWrong 43 = .ok (.ireturn, 1) := by decide +kernel
theorem dX6_canStand_0 : decode cX6_canStand 0 = .ok (.iload_n 1, 1) := by decide +kernel
theorem dX6_canStand_1 : decode cX6_canStand 1 = .ok (.iconst 5, 1) := by decide +kernel
theorem dX6_canStand_2 : decode cX6_canStand 2 = .ok (.irem, 1) := by decide +kernel
theorem dX6_canStand_3 : decode cX6_canStand 3 = .ok (.tableswitch 104 0 3 #[29, 53, 67, 84], 29) := by decide +kernel
theorem dX6_canStand_32 : decode cX6_canStand 32 = .ok (.iload_n 1, 1) := by decide +kernel
theorem dX6_canStand_33 : decode cX6_canStand 33 = .ok (.bipush 40, 2) := by decide +kernel
theorem dX6_canStand_35 : decode cX6_canStand 35 = .ok (.if_icmp .ge 19, 3) := by decide +kernel
theorem dX6_canStand_38 : decode cX6_canStand 38 = .ok (.aload_n 0, 1) := by decide +kernel
theorem dX6_canStand_39 : decode cX6_canStand 39 = .ok (.getfield 9, 3) := by decide +kernel
theorem dX6_canStand_42 : decode cX6_canStand 42 = .ok (.iload_n 1, 1) := by decide +kernel
theorem dX6_canStand_43 : decode cX6_canStand 43 = .ok (.iaload, 1) := by decide +kernel
theorem dX6_canStand_44 : decode cX6_canStand 44 = .ok (.invokestatic 32, 3) := by decide +kernel
theorem dX6_canStand_47 : decode cX6_canStand 47 = .ok (.ifCond .lt 7, 3) := by decide +kernel
theorem dX6_canStand_50 : decode cX6_canStand 50 = .ok (.iconst 1, 1) := by decide +kernel
theorem dX6_canStand_51 : decode cX6_canStand 51 = .ok (.goto 4, 3) := by decide +kernel
theorem dX6_canStand_54 : decode cX6_canStand 54 = .ok (.iconst 0, 1) := by decide +kernel
theorem dX6_canStand_55 : decode cX6_canStand 55 = .ok (.ireturn, 1) := by decide +kernel
theorem dX6_canStand_56 : decode cX6_canStand 56 = .ok (.aload_n 0, 1) := by decide +kernel
theorem dX6_canStand_57 : decode cX6_canStand 57 = .ok (.getfield 9, 3) := by decide +kernel
theorem dX6_canStand_60 : decode cX6_canStand 60 = .ok (.iload_n 1, 1) := by decide +kernel
theorem dX6_canStand_61 : decode cX6_canStand 61 = .ok (.iaload, 1) := by decide +kernel
theorem dX6_canStand_62 : decode cX6_canStand 62 = .ok (.bipush 48, 2) := by decide +kernel
theorem dX6_canStand_64 : decode cX6_canStand 64 = .ok (.bipush 54, 2) := by decide +kernel
theorem dX6_canStand_66 : decode cX6_canStand 66 = .ok (.invokestatic 36, 3) := by decide +kernel
theorem dX6_canStand_69 : decode cX6_canStand 69 = .ok (.ireturn, 1) := by decide +kernel
theorem dX6_canStand_70 : decode cX6_canStand 70 = .ok (.aload_n 0, 1) := by decide +kernel
theorem dX6_canStand_71 : decode cX6_canStand 71 = .ok (.getfield 9, 3) := by decide +kernel
theorem dX6_canStand_74 : decode cX6_canStand 74 = .ok (.iload_n 1, 1) := by decide +kernel
theorem dX6_canStand_75 : decode cX6_canStand 75 = .ok (.iaload, 1) := by decide +kernel
theorem dX6_canStand_76 : decode cX6_canStand 76 = .ok (.bipush 45, 2) := by decide +kernel
theorem dX6_canStand_78 : decode cX6_canStand 78 = .ok (.if_icmp .ne 7, 3) := by decide +kernel
theorem dX6_canStand_81 : decode cX6_canStand 81 = .ok (.iconst 1, 1) := by decide +kernel
theorem dX6_canStand_82 : decode cX6_canStand 82 = .ok (.goto 4, 3) := by decide +kernel
theorem dX6_canStand_85 : decode cX6_canStand 85 = .ok (.iconst 0, 1) := by decide +kernel
theorem dX6_canStand_86 : decode cX6_canStand 86 = .ok (.ireturn, 1) := by decide +kernel
theorem dX6_canStand_87 : decode cX6_canStand 87 = .ok (.aload_n 0, 1) := by decide +kernel
theorem dX6_canStand_88 : decode cX6_canStand 88 = .ok (.getfield 9, 3) := by decide +kernel
theorem dX6_canStand_91 : decode cX6_canStand 91 = .ok (.iload_n 1, 1) := by decide +kernel
theorem dX6_canStand_92 : decode cX6_canStand 92 = .ok (.iaload, 1) := by decide +kernel
theorem dX6_canStand_93 : decode cX6_canStand 93 = .ok (.aload_n 0, 1) := by decide +kernel
theorem dX6_canStand_94 : decode cX6_canStand 94 = .ok (.getfield 9, 3) := by decide +kernel
theorem dX6_canStand_97 : decode cX6_canStand 97 = .ok (.iload_n 1, 1) := by decide +kernel
theorem dX6_canStand_98 : decode cX6_canStand 98 = .ok (.iconst 2, 1) := by decide +kernel
theorem dX6_canStand_99 : decode cX6_canStand 99 = .ok (.isub, 1) := by decide +kernel
theorem dX6_canStand_100 : decode cX6_canStand 100 = .ok (.iaload, 1) := by decide +kernel
theorem dX6_canStand_101 : decode cX6_canStand 101 = .ok (.bipush 54, 2) := by decide +kernel
theorem dX6_canStand_103 : decode cX6_canStand 103 = .ok (.invokestatic 36, 3) := by decide +kernel
theorem dX6_canStand_106 : decode cX6_canStand 106 = .ok (.ireturn, 1) := by decide +kernel
theorem dX6_canStand_107 : decode cX6_canStand 107 = .ok (.aload_n 0, 1) := by decide +kernel
theorem dX6_canStand_108 : decode cX6_canStand 108 = .ok (.getfield 9, 3) := by decide +kernel
theorem dX6_canStand_111 : decode cX6_canStand 111 = .ok (.iload_n 1, 1) := by decide +kernel
theorem dX6_canStand_112 : decode cX6_canStand 112 = .ok (.iaload, 1) := by decide +kernel
theorem dX6_canStand_113 : decode cX6_canStand 113 = .ok (.bipush 59, 2) := by decide +kernel
theorem dX6_canStand_115 : decode cX6_canStand 115 = .ok (.if_icmp .ne 7, 3) := by decide +kernel
theorem dX6_canStand_118 : decode cX6_canStand 118 = .ok (.iconst 1, 1) := by decide +kernel
theorem dX6_canStand_119 : decode cX6_canStand 119 = .ok (.goto 4, 3) := by decide +kernel
theorem dX6_canStand_122 : decode cX6_canStand 122 = .ok (.iconst 0, 1) := by decide +kernel
theorem dX6_canStand_123 : decode cX6_canStand 123 = .ok (.ireturn, 1) := by decide +kernel
theorem dX6_kindOf_0 : decode cX6_kindOf 0 = .ok (.iload_n 0, 1) := by decide +kernel
theorem dX6_kindOf_1 : decode cX6_kindOf 1 = .ok (.lookupswitch 51 #[(108, 45), (115, 43), (117, 47), (120, 49)], 43) := by decide +kernel
theorem dX6_kindOf_44 : decode cX6_kindOf 44 = .ok (.iconst 0, 1) := by decide +kernel
theorem dX6_kindOf_45 : decode cX6_kindOf 45 = .ok (.ireturn, 1) := by decide +kernel
theorem dX6_kindOf_46 : decode cX6_kindOf 46 = .ok (.iconst 1, 1) := by decide +kernel
theorem dX6_kindOf_47 : decode cX6_kindOf 47 = .ok (.ireturn, 1) := by decide +kernel
theorem dX6_kindOf_48 : decode cX6_kindOf 48 = .ok (.iconst 2, 1) := by decide +kernel
theorem dX6_kindOf_49 : decode cX6_kindOf 49 = .ok (.ireturn, 1) := by decide +kernel
theorem dX6_kindOf_50 : decode cX6_kindOf 50 = .ok (.iconst 3, 1) := by decide +kernel
theorem dX6_kindOf_51 : decode cX6_kindOf 51 = .ok (.ireturn, 1) := by decide +kernel
theorem dX6_kindOf_52 : decode cX6_kindOf 52 = .ok (.iconst (-1), 1) := by decide +kernel
theorem dX6_kindOf_53 : decode cX6_kindOf 53 = .ok (.ireturn, 1) := by decide +kernel
theorem dX6_adopt_0 : decode cX6_adopt 0 = .ok (.aload_n 0, 1) := by decide +kernel
theorem dX6_adopt_1 : decode cX6_adopt 1 = .ok (.aload_n 0, 1) := by decide +kernel
theorem dX6_adopt_2 : decode cX6_adopt 2 = .ok (.getfield 24, 3) := by decide +kernel
theorem dX6_adopt_5 : decode cX6_adopt 5 = .ok (.iconst 5, 1) := by decide +kernel
theorem dX6_adopt_6 : decode cX6_adopt 6 = .ok (.idiv, 1) := by decide +kernel
theorem dX6_adopt_7 : decode cX6_adopt 7 = .ok (.putfield 40, 3) := by decide +kernel
theorem dX6_adopt_10 : decode cX6_adopt 10 = .ok (.iconst 0, 1) := by decide +kernel
theorem dX6_adopt_11 : decode cX6_adopt 11 = .ok (.istore_n 1, 1) := by decide +kernel
theorem dX6_adopt_12 : decode cX6_adopt 12 = .ok (.iload_n 1, 1) := by decide +kernel
theorem dX6_adopt_13 : decode cX6_adopt 13 = .ok (.aload_n 0, 1) := by decide +kernel
theorem dX6_adopt_14 : decode cX6_adopt 14 = .ok (.getfield 40, 3) := by decide +kernel
theorem dX6_adopt_17 : decode cX6_adopt 17 = .ok (.if_icmp .ge 64, 3) := by decide +kernel
theorem dX6_adopt_20 : decode cX6_adopt 20 = .ok (.aload_n 0, 1) := by decide +kernel
theorem dX6_adopt_21 : decode cX6_adopt 21 = .ok (.getfield 15, 3) := by decide +kernel
theorem dX6_adopt_24 : decode cX6_adopt 24 = .ok (.iload_n 1, 1) := by decide +kernel
theorem dX6_adopt_25 : decode cX6_adopt 25 = .ok (.aload_n 0, 1) := by decide +kernel
theorem dX6_adopt_26 : decode cX6_adopt 26 = .ok (.getfield 9, 3) := by decide +kernel
theorem dX6_adopt_29 : decode cX6_adopt 29 = .ok (.iload_n 1, 1) := by decide +kernel
theorem dX6_adopt_30 : decode cX6_adopt 30 = .ok (.iconst 5, 1) := by decide +kernel
theorem dX6_adopt_31 : decode cX6_adopt 31 = .ok (.imul, 1) := by decide +kernel
theorem dX6_adopt_32 : decode cX6_adopt 32 = .ok (.iaload, 1) := by decide +kernel
theorem dX6_adopt_33 : decode cX6_adopt 33 = .ok (.invokestatic 32, 3) := by decide +kernel
theorem dX6_adopt_36 : decode cX6_adopt 36 = .ok (.iastore, 1) := by decide +kernel
theorem dX6_adopt_37 : decode cX6_adopt 37 = .ok (.aload_n 0, 1) := by decide +kernel
theorem dX6_adopt_38 : decode cX6_adopt 38 = .ok (.getfield 18, 3) := by decide +kernel
theorem dX6_adopt_41 : decode cX6_adopt 41 = .ok (.iload_n 1, 1) := by decide +kernel
theorem dX6_adopt_42 : decode cX6_adopt 42 = .ok (.aload_n 0, 1) := by decide +kernel
theorem dX6_adopt_43 : decode cX6_adopt 43 = .ok (.getfield 9, 3) := by decide +kernel
theorem dX6_adopt_46 : decode cX6_adopt 46 = .ok (.iload_n 1, 1) := by decide +kernel
theorem dX6_adopt_47 : decode cX6_adopt 47 = .ok (.iconst 5, 1) := by decide +kernel
theorem dX6_adopt_48 : decode cX6_adopt 48 = .ok (.imul, 1) := by decide +kernel
theorem dX6_adopt_49 : decode cX6_adopt 49 = .ok (.iconst 1, 1) := by decide +kernel
theorem dX6_adopt_50 : decode cX6_adopt 50 = .ok (.iadd, 1) := by decide +kernel
theorem dX6_adopt_51 : decode cX6_adopt 51 = .ok (.iaload, 1) := by decide +kernel
theorem dX6_adopt_52 : decode cX6_adopt 52 = .ok (.bipush 48, 2) := by decide +kernel
theorem dX6_adopt_54 : decode cX6_adopt 54 = .ok (.isub, 1) := by decide +kernel
theorem dX6_adopt_55 : decode cX6_adopt 55 = .ok (.iastore, 1) := by decide +kernel
theorem dX6_adopt_56 : decode cX6_adopt 56 = .ok (.aload_n 0, 1) := by decide +kernel
theorem dX6_adopt_57 : decode cX6_adopt 57 = .ok (.getfield 21, 3) := by decide +kernel
theorem dX6_adopt_60 : decode cX6_adopt 60 = .ok (.iload_n 1, 1) := by decide +kernel
theorem dX6_adopt_61 : decode cX6_adopt 61 = .ok (.aload_n 0, 1) := by decide +kernel
theorem dX6_adopt_62 : decode cX6_adopt 62 = .ok (.getfield 9, 3) := by decide +kernel
theorem dX6_adopt_65 : decode cX6_adopt 65 = .ok (.iload_n 1, 1) := by decide +kernel
theorem dX6_adopt_66 : decode cX6_adopt 66 = .ok (.iconst 5, 1) := by decide +kernel
theorem dX6_adopt_67 : decode cX6_adopt 67 = .ok (.imul, 1) := by decide +kernel
theorem dX6_adopt_68 : decode cX6_adopt 68 = .ok (.iconst 3, 1) := by decide +kernel
theorem dX6_adopt_69 : decode cX6_adopt 69 = .ok (.iadd, 1) := by decide +kernel
theorem dX6_adopt_70 : decode cX6_adopt 70 = .ok (.iaload, 1) := by decide +kernel
theorem dX6_adopt_71 : decode cX6_adopt 71 = .ok (.bipush 48, 2) := by decide +kernel
theorem dX6_adopt_73 : decode cX6_adopt 73 = .ok (.isub, 1) := by decide +kernel
theorem dX6_adopt_74 : decode cX6_adopt 74 = .ok (.iastore, 1) := by decide +kernel
theorem dX6_adopt_75 : decode cX6_adopt 75 = .ok (.iinc 1 1, 3) := by decide +kernel
theorem dX6_adopt_78 : decode cX6_adopt 78 = .ok (.goto (-66), 3) := by decide +kernel
theorem dX6_adopt_81 : decode cX6_adopt 81 = .ok (.return_, 1) := by decide +kernel
theorem dX6_permit_0 : decode cX6_permit 0 = .ok (.iconst 0, 1) := by decide +kernel
theorem dX6_permit_1 : decode cX6_permit 1 = .ok (.istore_n 3, 1) := by decide +kernel
theorem dX6_permit_2 : decode cX6_permit 2 = .ok (.iload_n 3, 1) := by decide +kernel
theorem dX6_permit_3 : decode cX6_permit 3 = .ok (.aload_n 0, 1) := by decide +kernel
theorem dX6_permit_4 : decode cX6_permit 4 = .ok (.getfield 40, 3) := by decide +kernel
theorem dX6_permit_7 : decode cX6_permit 7 = .ok (.if_icmp .ge 43, 3) := by decide +kernel
theorem dX6_permit_10 : decode cX6_permit 10 = .ok (.iload_n 1, 1) := by decide +kernel
theorem dX6_permit_11 : decode cX6_permit 11 = .ok (.aload_n 0, 1) := by decide +kernel
theorem dX6_permit_12 : decode cX6_permit 12 = .ok (.getfield 15, 3) := by decide +kernel
theorem dX6_permit_15 : decode cX6_permit 15 = .ok (.iload_n 3, 1) := by decide +kernel
theorem dX6_permit_16 : decode cX6_permit 16 = .ok (.iaload, 1) := by decide +kernel
theorem dX6_permit_17 : decode cX6_permit 17 = .ok (.invokestatic 43, 3) := by decide +kernel
theorem dX6_permit_20 : decode cX6_permit 20 = .ok (.ifCond .eq 24, 3) := by decide +kernel
theorem dX6_permit_23 : decode cX6_permit 23 = .ok (.iload_n 2, 1) := by decide +kernel
theorem dX6_permit_24 : decode cX6_permit 24 = .ok (.aload_n 0, 1) := by decide +kernel
theorem dX6_permit_25 : decode cX6_permit 25 = .ok (.getfield 18, 3) := by decide +kernel
theorem dX6_permit_28 : decode cX6_permit 28 = .ok (.iload_n 3, 1) := by decide +kernel
theorem dX6_permit_29 : decode cX6_permit 29 = .ok (.iaload, 1) := by decide +kernel
theorem dX6_permit_30 : decode cX6_permit 30 = .ok (.aload_n 0, 1) := by decide +kernel
theorem dX6_permit_31 : decode cX6_permit 31 = .ok (.getfield 21, 3) := by decide +kernel
theorem dX6_permit_34 : decode cX6_permit 34 = .ok (.iload_n 3, 1) := by decide +kernel
theorem dX6_permit_35 : decode cX6_permit 35 = .ok (.iaload, 1) := by decide +kernel
theorem dX6_permit_36 : decode cX6_permit 36 = .ok (.invokestatic 36, 3) := by decide +kernel
theorem dX6_permit_39 : decode cX6_permit 39 = .ok (.ifCond .ne 5, 3) := by decide +kernel
theorem dX6_permit_42 : decode cX6_permit 42 = .ok (.iconst 0, 1) := by decide +kernel
theorem dX6_permit_43 : decode cX6_permit 43 = .ok (.ireturn, 1) := by decide +kernel
theorem dX6_permit_44 : decode cX6_permit 44 = .ok (.iinc 3 1, 3) := by decide +kernel
theorem dX6_permit_47 : decode cX6_permit 47 = .ok (.goto (-45), 3) := by decide +kernel
theorem dX6_permit_50 : decode cX6_permit 50 = .ok (.iconst 1, 1) := by decide +kernel
theorem dX6_permit_51 : decode cX6_permit 51 = .ok (.ireturn, 1) := by decide +kernel
theorem dX7_init_0 : decode cX7_init 0 = .ok (.aload_n 0, 1) := by decide +kernel
theorem dX7_init_1 : decode cX7_init 1 = .ok (.invokespecial 3, 3) := by decide +kernel
theorem dX7_init_4 : decode cX7_init 4 = .ok (.aload_n 0, 1) := by decide +kernel
theorem dX7_init_5 : decode cX7_init 5 = .ok (.bipush 11, 2) := by decide +kernel
theorem dX7_init_7 : decode cX7_init 7 = .ok (.newarray .int, 2) := by decide +kernel
theorem dX7_init_9 : decode cX7_init 9 = .ok (.putfield 9, 3) := by decide +kernel
theorem dX7_init_12 : decode cX7_init 12 = .ok (.aload_n 0, 1) := by decide +kernel
theorem dX7_init_13 : decode cX7_init 13 = .ok (.bipush 10, 2) := by decide +kernel
theorem dX7_init_15 : decode cX7_init 15 = .ok (.newarray .int, 2) := by decide +kernel
theorem dX7_init_17 : decode cX7_init 17 = .ok (.putfield 15, 3) := by decide +kernel
theorem dX7_init_20 : decode cX7_init 20 = .ok (.aload_n 0, 1) := by decide +kernel
theorem dX7_init_21 : decode cX7_init 21 = .ok (.bipush 10, 2) := by decide +kernel
theorem dX7_init_23 : decode cX7_init 23 = .ok (.newarray .int, 2) := by decide +kernel
theorem dX7_init_25 : decode cX7_init 25 = .ok (.putfield 18, 3) := by decide +kernel
theorem dX7_init_28 : decode cX7_init 28 = .ok (.return_, 1) := by decide +kernel
theorem dX7_stopsIn_0 : decode cX7_stopsIn 0 = .ok (.aload_n 0, 1) := by decide +kernel
theorem dX7_stopsIn_1 : decode cX7_stopsIn 1 = .ok (.getfield 9, 3) := by decide +kernel
theorem dX7_stopsIn_4 : decode cX7_stopsIn 4 = .ok (.iload_n 1, 1) := by decide +kernel
theorem dX7_stopsIn_5 : decode cX7_stopsIn 5 = .ok (.iconst 1, 1) := by decide +kernel
theorem dX7_stopsIn_6 : decode cX7_stopsIn 6 = .ok (.iadd, 1) := by decide +kernel
theorem dX7_stopsIn_7 : decode cX7_stopsIn 7 = .ok (.iaload, 1) := by decide +kernel
theorem dX7_stopsIn_8 : decode cX7_stopsIn 8 = .ok (.aload_n 0, 1) := by decide +kernel
theorem dX7_stopsIn_9 : decode cX7_stopsIn 9 = .ok (.getfield 9, 3) := by decide +kernel
theorem dX7_stopsIn_12 : decode cX7_stopsIn 12 = .ok (.iload_n 1, 1) := by decide +kernel
theorem dX7_stopsIn_13 : decode cX7_stopsIn 13 = .ok (.iaload, 1) := by decide +kernel
theorem dX7_stopsIn_14 : decode cX7_stopsIn 14 = .ok (.isub, 1) := by decide +kernel
theorem dX7_stopsIn_15 : decode cX7_stopsIn 15 = .ok (.ireturn, 1) := by decide +kernel
theorem dX8_init_0 : decode cX8_init 0 = .ok (.aload_n 0, 1) := by decide +kernel
theorem dX8_init_1 : decode cX8_init 1 = .ok (.invokespecial 3, 3) := by decide +kernel
theorem dX8_init_4 : decode cX8_init 4 = .ok (.aload_n 0, 1) := by decide +kernel
theorem dX8_init_5 : decode cX8_init 5 = .ok (.bipush 10, 2) := by decide +kernel
theorem dX8_init_7 : decode cX8_init 7 = .ok (.newarray .int, 2) := by decide +kernel
theorem dX8_init_9 : decode cX8_init 9 = .ok (.putfield 9, 3) := by decide +kernel
theorem dX8_init_12 : decode cX8_init 12 = .ok (.return_, 1) := by decide +kernel
theorem dX8_isMissing_0 : decode cX8_isMissing 0 = .ok (.aload_n 0, 1) := by decide +kernel
theorem dX8_isMissing_1 : decode cX8_isMissing 1 = .ok (.getfield 15, 3) := by decide +kernel
theorem dX8_isMissing_4 : decode cX8_isMissing 4 = .ok (.ifCond .ne 7, 3) := by decide +kernel
theorem dX8_isMissing_7 : decode cX8_isMissing 7 = .ok (.iconst 1, 1) := by decide +kernel
theorem dX8_isMissing_8 : decode cX8_isMissing 8 = .ok (.goto 4, 3) := by decide +kernel
theorem dX8_isMissing_11 : decode cX8_isMissing 11 = .ok (.iconst 0, 1) := by decide +kernel
theorem dX8_isMissing_12 : decode cX8_isMissing 12 = .ok (.ireturn, 1) := by decide +kernel
theorem dX8_lay_0 : decode cX8_lay 0 = .ok (.aload_n 0, 1) := by decide +kernel
theorem dX8_lay_1 : decode cX8_lay 1 = .ok (.iload_n 1, 1) := by decide +kernel
theorem dX8_lay_2 : decode cX8_lay 2 = .ok (.putfield 15, 3) := by decide +kernel
theorem dX8_lay_5 : decode cX8_lay 5 = .ok (.aload_n 0, 1) := by decide +kernel
theorem dX8_lay_6 : decode cX8_lay 6 = .ok (.iload_n 1, 1) := by decide +kernel
theorem dX8_lay_7 : decode cX8_lay 7 = .ok (.ifCond .ne 7, 3) := by decide +kernel
theorem dX8_lay_10 : decode cX8_lay 10 = .ok (.iconst 0, 1) := by decide +kernel
theorem dX8_lay_11 : decode cX8_lay 11 = .ok (.goto 4, 3) := by decide +kernel
theorem dX8_lay_14 : decode cX8_lay 14 = .ok (.iload_n 2, 1) := by decide +kernel
theorem dX8_lay_15 : decode cX8_lay 15 = .ok (.putfield 19, 3) := by decide +kernel
theorem dX8_lay_18 : decode cX8_lay 18 = .ok (.aload_n 0, 1) := by decide +kernel
theorem dX8_lay_19 : decode cX8_lay 19 = .ok (.getfield 9, 3) := by decide +kernel
theorem dX8_lay_22 : decode cX8_lay 22 = .ok (.iconst 0, 1) := by decide +kernel
theorem dX8_lay_23 : decode cX8_lay 23 = .ok (.invokestatic 22, 3) := by decide +kernel
theorem dX8_lay_26 : decode cX8_lay 26 = .ok (.aload_n 0, 1) := by decide +kernel
theorem dX8_lay_27 : decode cX8_lay 27 = .ok (.getfield 19, 3) := by decide +kernel
theorem dX8_lay_30 : decode cX8_lay 30 = .ok (.ireturn, 1) := by decide +kernel
theorem dX8_put_0 : decode cX8_put 0 = .ok (.aload_n 0, 1) := by decide +kernel
theorem dX8_put_1 : decode cX8_put 1 = .ok (.getfield 9, 3) := by decide +kernel
theorem dX8_put_4 : decode cX8_put 4 = .ok (.iload_n 1, 1) := by decide +kernel
theorem dX8_put_5 : decode cX8_put 5 = .ok (.iaload, 1) := by decide +kernel
theorem dX8_put_6 : decode cX8_put 6 = .ok (.istore_n 3, 1) := by decide +kernel
theorem dX8_put_7 : decode cX8_put 7 = .ok (.aload_n 0, 1) := by decide +kernel
theorem dX8_put_8 : decode cX8_put 8 = .ok (.getfield 9, 3) := by decide +kernel
theorem dX8_put_11 : decode cX8_put 11 = .ok (.iload_n 1, 1) := by decide +kernel
theorem dX8_put_12 : decode cX8_put 12 = .ok (.aload_n 0, 1) := by decide +kernel
theorem dX8_put_13 : decode cX8_put 13 = .ok (.getfield 15, 3) := by decide +kernel
theorem dX8_put_16 : decode cX8_put 16 = .ok (.bipush 8, 2) := by decide +kernel
theorem dX8_put_18 : decode cX8_put 18 = .ok (.if_icmp .ne 8, 3) := by decide +kernel
theorem dX8_put_21 : decode cX8_put 21 = .ok (.iload_n 2, 1) := by decide +kernel
theorem dX8_put_22 : decode cX8_put 22 = .ok (.i2b, 1) := by decide +kernel
theorem dX8_put_23 : decode cX8_put 23 = .ok (.goto 18, 3) := by decide +kernel
theorem dX8_put_26 : decode cX8_put 26 = .ok (.aload_n 0, 1) := by decide +kernel
theorem dX8_put_27 : decode cX8_put 27 = .ok (.getfield 15, 3) := by decide +kernel
theorem dX8_put_30 : decode cX8_put 30 = .ok (.bipush 16, 2) := by decide +kernel
theorem dX8_put_32 : decode cX8_put 32 = .ok (.if_icmp .ne 8, 3) := by decide +kernel
theorem dX8_put_35 : decode cX8_put 35 = .ok (.iload_n 2, 1) := by decide +kernel
theorem dX8_put_36 : decode cX8_put 36 = .ok (.i2s, 1) := by decide +kernel
theorem dX8_put_37 : decode cX8_put 37 = .ok (.goto 4, 3) := by decide +kernel
theorem dX8_put_40 : decode cX8_put 40 = .ok (.iload_n 2, 1) := by decide +kernel
theorem dX8_put_41 : decode cX8_put 41 = .ok (.iastore, 1) := by decide +kernel
theorem dX8_put_42 : decode cX8_put 42 = .ok (.iload_n 3, 1) := by decide +kernel
theorem dX8_put_43 : decode cX8_put 43 = .ok (.ireturn, 1) := by decide +kernel
theorem dX8_holds_0 : decode cX8_holds 0 = .ok (.iload_n 1, 1) := by decide +kernel
theorem dX8_holds_1 : decode cX8_holds 1 = .ok (.ifCond .lt 29, 3) := by decide +kernel
theorem dX8_holds_4 : decode cX8_holds 4 = .ok (.iload_n 2, 1) := by decide +kernel
theorem dX8_holds_5 : decode cX8_holds 5 = .ok (.ifCond .lt 25, 3) := by decide +kernel
theorem dX8_holds_8 : decode cX8_holds 8 = .ok (.iload_n 2, 1) := by decide +kernel
theorem dX8_holds_9 : decode cX8_holds 9 = .ok (.aload_n 0, 1) := by decide +kernel
theorem dX8_holds_10 : decode cX8_holds 10 = .ok (.getfield 19, 3) := by decide +kernel
theorem dX8_holds_13 : decode cX8_holds 13 = .ok (.if_icmp .gt 17, 3) := by decide +kernel
theorem dX8_holds_16 : decode cX8_holds 16 = .ok (.iload_n 1, 1) := by decide +kernel
theorem dX8_holds_17 : decode cX8_holds 17 = .ok (.aload_n 0, 1) := by decide +kernel
theorem dX8_holds_18 : decode cX8_holds 18 = .ok (.getfield 19, 3) := by decide +kernel
theorem dX8_holds_21 : decode cX8_holds 21 = .ok (.iload_n 2, 1) := by decide +kernel
theorem dX8_holds_22 : decode cX8_holds 22 = .ok (.isub, 1) := by decide +kernel
theorem dX8_holds_23 : decode cX8_holds 23 = .ok (.if_icmp .gt 7, 3) := by decide +kernel
theorem dX8_holds_26 : decode cX8_holds 26 = .ok (.iconst 1, 1) := by decide +kernel
theorem dX8_holds_27 : decode cX8_holds 27 = .ok (.goto 4, 3) := by decide +kernel
theorem dX8_holds_30 : decode cX8_holds 30 = .ok (.iconst 0, 1) := by decide +kernel
theorem dX8_holds_31 : decode cX8_holds 31 = .ok (.ireturn, 1) := by decide +kernel
theorem dX8_allWithin_0 : decode cX8_allWithin 0 = .ok (.iconst 0, 1) := by decide +kernel
theorem dX8_allWithin_1 : decode cX8_allWithin 1 = .ok (.istore_n 3, 1) := by decide +kernel
theorem dX8_allWithin_2 : decode cX8_allWithin 2 = .ok (.iload_n 3, 1) := by decide +kernel
theorem dX8_allWithin_3 : decode cX8_allWithin 3 = .ok (.aload_n 0, 1) := by decide +kernel
theorem dX8_allWithin_4 : decode cX8_allWithin 4 = .ok (.getfield 19, 3) := by decide +kernel
theorem dX8_allWithin_7 : decode cX8_allWithin 7 = .ok (.if_icmp .ge 25, 3) := by decide +kernel
theorem dX8_allWithin_10 : decode cX8_allWithin 10 = .ok (.aload_n 0, 1) := by decide +kernel
theorem dX8_allWithin_11 : decode cX8_allWithin 11 = .ok (.getfield 9, 3) := by decide +kernel
theorem dX8_allWithin_14 : decode cX8_allWithin 14 = .ok (.iload_n 3, 1) := by decide +kernel
theorem dX8_allWithin_15 : decode cX8_allWithin 15 = .ok (.iaload, 1) := by decide +kernel
theorem dX8_allWithin_16 : decode cX8_allWithin 16 = .ok (.iload_n 1, 1) := by decide +kernel
theorem dX8_allWithin_17 : decode cX8_allWithin 17 = .ok (.iload_n 2, 1) := by decide +kernel
theorem dX8_allWithin_18 : decode cX8_allWithin 18 = .ok (.invokestatic 28, 3) := by decide +kernel
theorem dX8_allWithin_21 : decode cX8_allWithin 21 = .ok (.ifCond .ne 5, 3) := by decide +kernel
theorem dX8_allWithin_24 : decode cX8_allWithin 24 = .ok (.iconst 0, 1) := by decide +kernel
theorem dX8_allWithin_25 : decode cX8_allWithin 25 = .ok (.ireturn, 1) := by decide +kernel
theorem dX8_allWithin_26 : decode cX8_allWithin 26 = .ok (.iinc 3 1, 3) := by decide +kernel
theorem dX8_allWithin_29 : decode cX8_allWithin 29 = .ok (.goto (-27), 3) := by decide +kernel
theorem dX8_allWithin_32 : decode cX8_allWithin 32 = .ok (.iconst 1, 1) := by decide +kernel
theorem dX8_allWithin_33 : decode cX8_allWithin 33 = .ok (.ireturn, 1) := by decide +kernel
theorem dX9_init_0 : decode cX9_init 0 = .ok (.aload_n 0, 1) := by decide +kernel
theorem dX9_init_1 : decode cX9_init 1 = .ok (.invokespecial 1, 3) := by decide +kernel
theorem dX9_init_4 : decode cX9_init 4 = .ok (.return_, 1) := by decide +kernel
theorem dX10_init_0 : decode cX10_init 0 = .ok (.aload_n 0, 1) := by decide +kernel
theorem dX10_init_1 : decode cX10_init 1 = .ok (.invokespecial 3, 3) := by decide +kernel
theorem dX10_init_4 : decode cX10_init 4 = .ok (.aload_n 0, 1) := by decide +kernel
theorem dX10_init_5 : decode cX10_init 5 = .ok (.bipush 14, 2) := by decide +kernel
theorem dX10_init_7 : decode cX10_init 7 = .ok (.newarray .int, 2) := by decide +kernel
theorem dX10_init_9 : decode cX10_init 9 = .ok (.putfield 9, 3) := by decide +kernel
theorem dX10_init_12 : decode cX10_init 12 = .ok (.aload_n 0, 1) := by decide +kernel
theorem dX10_init_13 : decode cX10_init 13 = .ok (.bipush 14, 2) := by decide +kernel
theorem dX10_init_15 : decode cX10_init 15 = .ok (.newarray .int, 2) := by decide +kernel
theorem dX10_init_17 : decode cX10_init 17 = .ok (.putfield 15, 3) := by decide +kernel
theorem dX10_init_20 : decode cX10_init 20 = .ok (.aload_n 0, 1) := by decide +kernel
theorem dX10_init_21 : decode cX10_init 21 = .ok (.bipush 14, 2) := by decide +kernel
theorem dX10_init_23 : decode cX10_init 23 = .ok (.newarray .int, 2) := by decide +kernel
theorem dX10_init_25 : decode cX10_init 25 = .ok (.putfield 18, 3) := by decide +kernel
theorem dX10_init_28 : decode cX10_init 28 = .ok (.aload_n 0, 1) := by decide +kernel
theorem dX10_init_29 : decode cX10_init 29 = .ok (.bipush 14, 2) := by decide +kernel
theorem dX10_init_31 : decode cX10_init 31 = .ok (.newarray .boolean, 2) := by decide +kernel
theorem dX10_init_33 : decode cX10_init 33 = .ok (.putfield 21, 3) := by decide +kernel
theorem dX10_init_36 : decode cX10_init 36 = .ok (.aload_n 0, 1) := by decide +kernel
theorem dX10_init_37 : decode cX10_init 37 = .ok (.bipush 8, 2) := by decide +kernel
theorem dX10_init_39 : decode cX10_init 39 = .ok (.bipush 8, 2) := by decide +kernel
theorem dX10_init_41 : decode cX10_init 41 = .ok (.multianewarray 25 2, 4) := by decide +kernel
theorem dX10_init_45 : decode cX10_init 45 = .ok (.putfield 27, 3) := by decide +kernel
theorem dX10_init_48 : decode cX10_init 48 = .ok (.aload_n 0, 1) := by decide +kernel
theorem dX10_init_49 : decode cX10_init 49 = .ok (.bipush 8, 2) := by decide +kernel
theorem dX10_init_51 : decode cX10_init 51 = .ok (.bipush 8, 2) := by decide +kernel
theorem dX10_init_53 : decode cX10_init 53 = .ok (.multianewarray 25 2, 4) := by decide +kernel
theorem dX10_init_57 : decode cX10_init 57 = .ok (.putfield 30, 3) := by decide +kernel
theorem dX10_init_60 : decode cX10_init 60 = .ok (.return_, 1) := by decide +kernel
theorem dX10_hasCorner_0 : decode cX10_hasCorner 0 = .ok (.iload_n 1, 1) := by decide +kernel
theorem dX10_hasCorner_1 : decode cX10_hasCorner 1 = .ok (.iconst 0, 1) := by decide +kernel
theorem dX10_hasCorner_2 : decode cX10_hasCorner 2 = .ok (.aload_n 0, 1) := by decide +kernel
theorem dX10_hasCorner_3 : decode cX10_hasCorner 3 = .ok (.getfield 33, 3) := by decide +kernel
theorem dX10_hasCorner_6 : decode cX10_hasCorner 6 = .ok (.iconst 1, 1) := by decide +kernel
theorem dX10_hasCorner_7 : decode cX10_hasCorner 7 = .ok (.isub, 1) := by decide +kernel
theorem dX10_hasCorner_8 : decode cX10_hasCorner 8 = .ok (.invokestatic 37, 3) := by decide +kernel
theorem dX10_hasCorner_11 : decode cX10_hasCorner 11 = .ok (.ireturn, 1) := by decide +kernel
theorem dX10_addCorner_0 : decode cX10_addCorner 0 = .ok (.aload_n 0, 1) := by decide +kernel
theorem dX10_addCorner_1 : decode cX10_addCorner 1 = .ok (.iconst 0, 1) := by decide +kernel
theorem dX10_addCorner_2 : decode cX10_addCorner 2 = .ok (.putfield 41, 3) := by decide +kernel
theorem dX10_addCorner_5 : decode cX10_addCorner 5 = .ok (.aload_n 0, 1) := by decide +kernel
theorem dX10_addCorner_6 : decode cX10_addCorner 6 = .ok (.dup, 1) := by decide +kernel
theorem dX10_addCorner_7 : decode cX10_addCorner 7 = .ok (.getfield 33, 3) := by decide +kernel
theorem dX10_addCorner_10 : decode cX10_addCorner 10 = .ok (.iconst 1, 1) := by decide +kernel
theorem dX10_addCorner_11 : decode cX10_addCorner 11 = .ok (.iadd, 1) := by decide +kernel
theorem dX10_addCorner_12 : decode cX10_addCorner 12 = .ok (.putfield 33, 3) := by decide +kernel
theorem dX10_addCorner_15 : decode cX10_addCorner 15 = .ok (.aload_n 0, 1) := by decide +kernel
theorem dX10_addCorner_16 : decode cX10_addCorner 16 = .ok (.getfield 33, 3) := by decide +kernel
theorem dX10_addCorner_19 : decode cX10_addCorner 19 = .ok (.iconst 1, 1) := by decide +kernel
theorem dX10_addCorner_20 : decode cX10_addCorner 20 = .ok (.isub, 1) := by decide +kernel
theorem dX10_addCorner_21 : decode cX10_addCorner 21 = .ok (.ireturn, 1) := by decide +kernel
theorem dX10_addStreet_0 : decode cX10_addStreet 0 = .ok (.aload_n 0, 1) := by decide +kernel
theorem dX10_addStreet_1 : decode cX10_addStreet 1 = .ok (.iconst 0, 1) := by decide +kernel
theorem dX10_addStreet_2 : decode cX10_addStreet 2 = .ok (.putfield 41, 3) := by decide +kernel
theorem dX10_addStreet_5 : decode cX10_addStreet 5 = .ok (.aload_n 0, 1) := by decide +kernel
theorem dX10_addStreet_6 : decode cX10_addStreet 6 = .ok (.getfield 9, 3) := by decide +kernel
theorem dX10_addStreet_9 : decode cX10_addStreet 9 = .ok (.aload_n 0, 1) := by decide +kernel
theorem dX10_addStreet_10 : decode cX10_addStreet 10 = .ok (.getfield 45, 3) := by decide +kernel
theorem dX10_addStreet_13 : decode cX10_addStreet 13 = .ok (.iload_n 1, 1) := by decide +kernel
theorem dX10_addStreet_14 : decode cX10_addStreet 14 = .ok (.iastore, 1) := by decide +kernel
theorem dX10_addStreet_15 : decode cX10_addStreet 15 = .ok (.aload_n 0, 1) := by decide +kernel
theorem dX10_addStreet_16 : decode cX10_addStreet 16 = .ok (.getfield 15, 3) := by decide +kernel
theorem dX10_addStreet_19 : decode cX10_addStreet 19 = .ok (.aload_n 0, 1) := by decide +kernel
theorem dX10_addStreet_20 : decode cX10_addStreet 20 = .ok (.getfield 45, 3) := by decide +kernel
theorem dX10_addStreet_23 : decode cX10_addStreet 23 = .ok (.iload_n 2, 1) := by decide +kernel
theorem dX10_addStreet_24 : decode cX10_addStreet 24 = .ok (.iastore, 1) := by decide +kernel
theorem dX10_addStreet_25 : decode cX10_addStreet 25 = .ok (.aload_n 0, 1) := by decide +kernel
theorem dX10_addStreet_26 : decode cX10_addStreet 26 = .ok (.getfield 18, 3) := by decide +kernel
theorem dX10_addStreet_29 : decode cX10_addStreet 29 = .ok (.aload_n 0, 1) := by decide +kernel
theorem dX10_addStreet_30 : decode cX10_addStreet 30 = .ok (.getfield 45, 3) := by decide +kernel
theorem dX10_addStreet_33 : decode cX10_addStreet 33 = .ok (.iload_n 3, 1) := by decide +kernel
theorem dX10_addStreet_34 : decode cX10_addStreet 34 = .ok (.iastore, 1) := by decide +kernel
theorem dX10_addStreet_35 : decode cX10_addStreet 35 = .ok (.aload_n 0, 1) := by decide +kernel
theorem dX10_addStreet_36 : decode cX10_addStreet 36 = .ok (.getfield 21, 3) := by decide +kernel
theorem dX10_addStreet_39 : decode cX10_addStreet 39 = .ok (.aload_n 0, 1) := by decide +kernel
theorem dX10_addStreet_40 : decode cX10_addStreet 40 = .ok (.getfield 45, 3) := by decide +kernel
theorem dX10_addStreet_43 : decode cX10_addStreet 43 = .ok (.iconst 0, 1) := by decide +kernel
theorem dX10_addStreet_44 : decode cX10_addStreet 44 = .ok (.bastore, 1) := by decide +kernel
theorem dX10_addStreet_45 : decode cX10_addStreet 45 = .ok (.aload_n 0, 1) := by decide +kernel
theorem dX10_addStreet_46 : decode cX10_addStreet 46 = .ok (.dup, 1) := by decide +kernel
theorem dX10_addStreet_47 : decode cX10_addStreet 47 = .ok (.getfield 45, 3) := by decide +kernel
theorem dX10_addStreet_50 : decode cX10_addStreet 50 = .ok (.iconst 1, 1) := by decide +kernel
theorem dX10_addStreet_51 : decode cX10_addStreet 51 = .ok (.iadd, 1) := by decide +kernel
theorem dX10_addStreet_52 : decode cX10_addStreet 52 = .ok (.putfield 45, 3) := by decide +kernel
theorem dX10_addStreet_55 : decode cX10_addStreet 55 = .ok (.aload_n 0, 1) := by decide +kernel
theorem dX10_addStreet_56 : decode cX10_addStreet 56 = .ok (.getfield 45, 3) := by decide +kernel
theorem dX10_addStreet_59 : decode cX10_addStreet 59 = .ok (.iconst 1, 1) := by decide +kernel
theorem dX10_addStreet_60 : decode cX10_addStreet 60 = .ok (.isub, 1) := by decide +kernel
theorem dX10_addStreet_61 : decode cX10_addStreet 61 = .ok (.ireturn, 1) := by decide +kernel
theorem dX10_close_0 : decode cX10_close 0 = .ok (.aload_n 0, 1) := by decide +kernel
theorem dX10_close_1 : decode cX10_close 1 = .ok (.getfield 21, 3) := by decide +kernel
theorem dX10_close_4 : decode cX10_close 4 = .ok (.iload_n 1, 1) := by decide +kernel
theorem dX10_close_5 : decode cX10_close 5 = .ok (.baload, 1) := by decide +kernel
theorem dX10_close_6 : decode cX10_close 6 = .ok (.iload_n 2, 1) := by decide +kernel
theorem dX10_close_7 : decode cX10_close 7 = .ok (.if_icmp .ne 5, 3) := by decide +kernel
theorem dX10_close_10 : decode cX10_close 10 = .ok (.iconst 0, 1) := by decide +kernel
theorem dX10_close_11 : decode cX10_close 11 = .ok (.ireturn, 1) := by decide +kernel
theorem dX10_close_12 : decode cX10_close 12 = .ok (.aload_n 0, 1) := by decide +kernel
theorem dX10_close_13 : decode cX10_close 13 = .ok (.iconst 0, 1) := by decide +kernel
theorem dX10_close_14 : decode cX10_close 14 = .ok (.putfield 41, 3) := by decide +kernel
theorem dX10_close_17 : decode cX10_close 17 = .ok (.aload_n 0, 1) := by decide +kernel
theorem dX10_close_18 : decode cX10_close 18 = .ok (.getfield 21, 3) := by decide +kernel
theorem dX10_close_21 : decode cX10_close 21 = .ok (.iload_n 1, 1) := by decide +kernel
theorem dX10_close_22 : decode cX10_close 22 = .ok (.iload_n 2, 1) := by decide +kernel
theorem dX10_close_23 : decode cX10_close 23 = .ok (.bastore, 1) := by decide +kernel
theorem dX10_close_24 : decode cX10_close 24 = .ok (.iconst 1, 1) := by decide +kernel
theorem dX10_close_25 : decode cX10_close 25 = .ok (.ireturn, 1) := by decide +kernel
theorem dX10_table_0 : decode cX10_table 0 = .ok (.aload_n 0, 1) := by decide +kernel
theorem dX10_table_1 : decode cX10_table 1 = .ok (.getfield 41, 3) := by decide +kernel
theorem dX10_table_4 : decode cX10_table 4 = .ok (.ifCond .ne 17, 3) := by decide +kernel
theorem dX10_table_7 : decode cX10_table 7 = .ok (.aload_n 0, 1) := by decide +kernel
theorem dX10_table_8 : decode cX10_table 8 = .ok (.aload_n 0, 1) := by decide +kernel
theorem dX10_table_9 : decode cX10_table 9 = .ok (.getfield 27, 3) := by decide +kernel
theorem dX10_table_12 : decode cX10_table 12 = .ok (.iconst 0, 1) := by decide +kernel
theorem dX10_table_13 : decode cX10_table 13 = .ok (.invokevirtual 48, 3) := by decide +kernel
theorem dX10_table_16 : decode cX10_table 16 = .ok (.aload_n 0, 1) := by decide +kernel
theorem dX10_table_17 : decode cX10_table 17 = .ok (.iconst 1, 1) := by decide +kernel
theorem dX10_table_18 : decode cX10_table 18 = .ok (.putfield 41, 3) := by decide +kernel
theorem dX10_table_21 : decode cX10_table 21 = .ok (.aload_n 0, 1) := by decide +kernel
theorem dX10_table_22 : decode cX10_table 22 = .ok (.getfield 27, 3) := by decide +kernel
theorem dX10_table_25 : decode cX10_table 25 = .ok (.areturn, 1) := by decide +kernel
theorem dX10_tableWith_0 : decode cX10_tableWith 0 = .ok (.aload_n 0, 1) := by decide +kernel
theorem dX10_tableWith_1 : decode cX10_tableWith 1 = .ok (.aload_n 0, 1) := by decide +kernel
theorem dX10_tableWith_2 : decode cX10_tableWith 2 = .ok (.getfield 30, 3) := by decide +kernel
theorem dX10_tableWith_5 : decode cX10_tableWith 5 = .ok (.iload_n 1, 1) := by decide +kernel
theorem dX10_tableWith_6 : decode cX10_tableWith 6 = .ok (.invokevirtual 48, 3) := by decide +kernel
theorem dX10_tableWith_9 : decode cX10_tableWith 9 = .ok (.aload_n 0, 1) := by decide +kernel
theorem dX10_tableWith_10 : decode cX10_tableWith 10 = .ok (.getfield 30, 3) := by decide +kernel
theorem dX10_tableWith_13 : decode cX10_tableWith 13 = .ok (.areturn, 1) := by decide +kernel
theorem dX10_measure_0 : decode cX10_measure 0 = .ok (.iconst 0, 1) := by decide +kernel
theorem dX10_measure_1 : decode cX10_measure 1 = .ok (.istore_n 3, 1) := by decide +kernel
theorem dX10_measure_2 : decode cX10_measure 2 = .ok (.iload_n 3, 1) := by decide +kernel
theorem dX10_measure_3 : decode cX10_measure 3 = .ok (.aload_n 0, 1) := by decide +kernel
theorem dX10_measure_4 : decode cX10_measure 4 = .ok (.getfield 33, 3) := by decide +kernel
theorem dX10_measure_7 : decode cX10_measure 7 = .ok (.if_icmp .ge 23, 3) := by decide +kernel
theorem dX10_measure_10 : decode cX10_measure 10 = .ok (.aload_n 1, 1) := by decide +kernel
theorem dX10_measure_11 : decode cX10_measure 11 = .ok (.iload_n 3, 1) := by decide +kernel
theorem dX10_measure_12 : decode cX10_measure 12 = .ok (.aaload, 1) := by decide +kernel
theorem dX10_measure_13 : decode cX10_measure 13 = .ok (.ldc 52, 2) := by decide +kernel
theorem dX10_measure_15 : decode cX10_measure 15 = .ok (.invokestatic 53, 3) := by decide +kernel
theorem dX10_measure_18 : decode cX10_measure 18 = .ok (.aload_n 1, 1) := by decide +kernel
theorem dX10_measure_19 : decode cX10_measure 19 = .ok (.iload_n 3, 1) := by decide +kernel
theorem dX10_measure_20 : decode cX10_measure 20 = .ok (.aaload, 1) := by decide +kernel
theorem dX10_measure_21 : decode cX10_measure 21 = .ok (.iload_n 3, 1) := by decide +kernel
theorem dX10_measure_22 : decode cX10_measure 22 = .ok (.iconst 0, 1) := by decide +kernel
theorem dX10_measure_23 : decode cX10_measure 23 = .ok (.iastore, 1) := by decide +kernel
theorem dX10_measure_24 : decode cX10_measure 24 = .ok (.iinc 3 1, 3) := by decide +kernel
theorem dX10_measure_27 : decode cX10_measure 27 = .ok (.goto (-25), 3) := by decide +kernel
theorem dX10_measure_30 : decode cX10_measure 30 = .ok (.iconst 0, 1) := by decide +kernel
theorem dX10_measure_31 : decode cX10_measure 31 = .ok (.istore_n 3, 1) := by decide +kernel
theorem dX10_measure_32 : decode cX10_measure 32 = .ok (.iload_n 3, 1) := by decide +kernel
theorem dX10_measure_33 : decode cX10_measure 33 = .ok (.aload_n 0, 1) := by decide +kernel
theorem dX10_measure_34 : decode cX10_measure 34 = .ok (.getfield 45, 3) := by decide +kernel
theorem dX10_measure_37 : decode cX10_measure 37 = .ok (.if_icmp .ge 80, 3) := by decide +kernel
theorem dX10_measure_40 : decode cX10_measure 40 = .ok (.aload_n 0, 1) := by decide +kernel
theorem dX10_measure_41 : decode cX10_measure 41 = .ok (.getfield 21, 3) := by decide +kernel
theorem dX10_measure_44 : decode cX10_measure 44 = .ok (.iload_n 3, 1) := by decide +kernel
theorem dX10_measure_45 : decode cX10_measure 45 = .ok (.baload, 1) := by decide +kernel
theorem dX10_measure_46 : decode cX10_measure 46 = .ok (.ifCond .ne 65, 3) := by decide +kernel
theorem dX10_measure_49 : decode cX10_measure 49 = .ok (.aload_n 1, 1) := by decide +kernel
theorem dX10_measure_50 : decode cX10_measure 50 = .ok (.aload_n 0, 1) := by decide +kernel
theorem dX10_measure_51 : decode cX10_measure 51 = .ok (.getfield 9, 3) := by decide +kernel
theorem dX10_measure_54 : decode cX10_measure 54 = .ok (.iload_n 3, 1) := by decide +kernel
theorem dX10_measure_55 : decode cX10_measure 55 = .ok (.iaload, 1) := by decide +kernel
theorem dX10_measure_56 : decode cX10_measure 56 = .ok (.aaload, 1) := by decide +kernel
theorem dX10_measure_57 : decode cX10_measure 57 = .ok (.aload_n 0, 1) := by decide +kernel
theorem dX10_measure_58 : decode cX10_measure 58 = .ok (.getfield 15, 3) := by decide +kernel
theorem dX10_measure_61 : decode cX10_measure 61 = .ok (.iload_n 3, 1) := by decide +kernel
theorem dX10_measure_62 : decode cX10_measure 62 = .ok (.iaload, 1) := by decide +kernel
theorem dX10_measure_63 : decode cX10_measure 63 = .ok (.iaload, 1) := by decide +kernel
theorem dX10_measure_64 : decode cX10_measure 64 = .ok (.aload_n 0, 1) := by decide +kernel
theorem dX10_measure_65 : decode cX10_measure 65 = .ok (.getfield 18, 3) := by decide +kernel
theorem dX10_measure_68 : decode cX10_measure 68 = .ok (.iload_n 3, 1) := by decide +kernel
theorem dX10_measure_69 : decode cX10_measure 69 = .ok (.iaload, 1) := by decide +kernel
