theorem dX0_init_0 : decode cX0_init 0 = .ok (.aload_n 0, 1) := by decide +kernel
theorem dX0_init_1 : decode cX0_init 1 = .ok (.invokespecial 3, 3) := by decide +kernel
theorem dX0_init_4 : decode cX0_init 4 = .ok (.aload_n 0, 1) := by decide +kernel
theorem dX0_init_5 : decode cX0_init 5 = .ok (.new 9, 3) := by decide +kernel
theorem dX0_init_8 : decode cX0_init 8 = .ok (.dup, 1) := by decide +kernel
theorem dX0_init_9 : decode cX0_init 9 = .ok (.invokespecial 11, 3) := by decide +kernel
theorem dX0_init_12 : decode cX0_init 12 = .ok (.putfield 12, 3) := by decide +kernel
theorem dX0_init_15 : decode cX0_init 15 = .ok (.aload_n 0, 1) := by decide +kernel
theorem dX0_init_16 : decode cX0_init 16 = .ok (.iconst 4, 1) := by decide +kernel
theorem dX0_init_17 : decode cX0_init 17 = .ok (.anewarray 18, 3) := by decide +kernel
theorem dX0_init_20 : decode cX0_init 20 = .ok (.putfield 20, 3) := by decide +kernel
theorem dX0_init_23 : decode cX0_init 23 = .ok (.aload_n 0, 1) := by decide +kernel
theorem dX0_init_24 : decode cX0_init 24 = .ok (.iconst 4, 1) := by decide +kernel
theorem dX0_init_25 : decode cX0_init 25 = .ok (.newarray .int, 2) := by decide +kernel
theorem dX0_init_27 : decode cX0_init 27 = .ok (.putfield 24, 3) := by decide +kernel
theorem dX0_init_30 : decode cX0_init 30 = .ok (.aload_n 0, 1) := by decide +kernel
theorem dX0_init_31 : decode cX0_init 31 = .ok (.bipush 10, 2) := by decide +kernel
theorem dX0_init_33 : decode cX0_init 33 = .ok (.anewarray 28, 3) := by decide +kernel
theorem dX0_init_36 : decode cX0_init 36 = .ok (.putfield 30, 3) := by decide +kernel
theorem dX0_init_39 : decode cX0_init 39 = .ok (.aload_n 0, 1) := by decide +kernel
theorem dX0_init_40 : decode cX0_init 40 = .ok (.bipush 40, 2) := by decide +kernel
theorem dX0_init_42 : decode cX0_init 42 = .ok (.putfield 34, 3) := by decide +kernel
theorem dX0_init_45 : decode cX0_init 45 = .ok (.aload_n 0, 1) := by decide +kernel
theorem dX0_init_46 : decode cX0_init 46 = .ok (.bipush 60, 2) := by decide +kernel
theorem dX0_init_48 : decode cX0_init 48 = .ok (.putfield 38, 3) := by decide +kernel
theorem dX0_init_51 : decode cX0_init 51 = .ok (.iconst 0, 1) := by decide +kernel
theorem dX0_init_52 : decode cX0_init 52 = .ok (.istore_n 1, 1) := by decide +kernel
theorem dX0_init_53 : decode cX0_init 53 = .ok (.iload_n 1, 1) := by decide +kernel
theorem dX0_init_54 : decode cX0_init 54 = .ok (.iconst 4, 1) := by decide +kernel
theorem dX0_init_55 : decode cX0_init 55 = .ok (.if_icmp .ge 22, 3) := by decide +kernel
theorem dX0_init_58 : decode cX0_init 58 = .ok (.aload_n 0, 1) := by decide +kernel
theorem dX0_init_59 : decode cX0_init 59 = .ok (.getfield 20, 3) := by decide +kernel
theorem dX0_init_62 : decode cX0_init 62 = .ok (.iload_n 1, 1) := by decide +kernel
theorem dX0_init_63 : decode cX0_init 63 = .ok (.new 18, 3) := by decide +kernel
theorem dX0_init_66 : decode cX0_init 66 = .ok (.dup, 1) := by decide +kernel
theorem dX0_init_67 : decode cX0_init 67 = .ok (.invokespecial 41, 3) := by decide +kernel
theorem dX0_init_70 : decode cX0_init 70 = .ok (.aastore, 1) := by decide +kernel
theorem dX0_init_71 : decode cX0_init 71 = .ok (.iinc 1 1, 3) := by decide +kernel
theorem dX0_init_74 : decode cX0_init 74 = .ok (.goto (-21), 3) := by decide +kernel
theorem dX0_init_77 : decode cX0_init 77 = .ok (.iconst 0, 1) := by decide +kernel
theorem dX0_init_78 : decode cX0_init 78 = .ok (.istore_n 1, 1) := by decide +kernel
theorem dX0_init_79 : decode cX0_init 79 = .ok (.iload_n 1, 1) := by decide +kernel
theorem dX0_init_80 : decode cX0_init 80 = .ok (.bipush 10, 2) := by decide +kernel
theorem dX0_init_82 : decode cX0_init 82 = .ok (.if_icmp .ge 22, 3) := by decide +kernel
theorem dX0_init_85 : decode cX0_init 85 = .ok (.aload_n 0, 1) := by decide +kernel
theorem dX0_init_86 : decode cX0_init 86 = .ok (.getfield 30, 3) := by decide +kernel
theorem dX0_init_89 : decode cX0_init 89 = .ok (.iload_n 1, 1) := by decide +kernel
theorem dX0_init_90 : decode cX0_init 90 = .ok (.new 28, 3) := by decide +kernel
theorem dX0_init_93 : decode cX0_init 93 = .ok (.dup, 1) := by decide +kernel
theorem dX0_init_94 : decode cX0_init 94 = .ok (.invokespecial 42, 3) := by decide +kernel
theorem dX0_init_97 : decode cX0_init 97 = .ok (.aastore, 1) := by decide +kernel
theorem dX0_init_98 : decode cX0_init 98 = .ok (.iinc 1 1, 3) := by decide +kernel
theorem dX0_init_101 : decode cX0_init 101 = .ok (.goto (-22), 3) := by decide +kernel
theorem dX0_init_104 : decode cX0_init 104 = .ok (.return_, 1) := by decide +kernel
theorem dX0_hasSchool_0 : decode cX0_hasSchool 0 = .ok (.iload_n 1, 1) := by decide +kernel
theorem dX0_hasSchool_1 : decode cX0_hasSchool 1 = .ok (.iconst 0, 1) := by decide +kernel
theorem dX0_hasSchool_2 : decode cX0_hasSchool 2 = .ok (.aload_n 0, 1) := by decide +kernel
theorem dX0_hasSchool_3 : decode cX0_hasSchool 3 = .ok (.getfield 43, 3) := by decide +kernel
theorem dX0_hasSchool_6 : decode cX0_hasSchool 6 = .ok (.iconst 1, 1) := by decide +kernel
theorem dX0_hasSchool_7 : decode cX0_hasSchool 7 = .ok (.isub, 1) := by decide +kernel
theorem dX0_hasSchool_8 : decode cX0_hasSchool 8 = .ok (.invokestatic 46, 3) := by decide +kernel
theorem dX0_hasSchool_11 : decode cX0_hasSchool 11 = .ok (.ireturn, 1) := by decide +kernel
theorem dX0_hasStop_0 : decode cX0_hasStop 0 = .ok (.iload_n 1, 1) := by decide +kernel
theorem dX0_hasStop_1 : decode cX0_hasStop 1 = .ok (.iconst 0, 1) := by decide +kernel
theorem dX0_hasStop_2 : decode cX0_hasStop 2 = .ok (.aload_n 0, 1) := by decide +kernel
theorem dX0_hasStop_3 : decode cX0_hasStop 3 = .ok (.getfield 50, 3) := by decide +kernel
theorem dX0_hasStop_6 : decode cX0_hasStop 6 = .ok (.iconst 1, 1) := by decide +kernel
theorem dX0_hasStop_7 : decode cX0_hasStop 7 = .ok (.isub, 1) := by decide +kernel
theorem dX0_hasStop_8 : decode cX0_hasStop 8 = .ok (.invokestatic 46, 3) := by decide +kernel
theorem dX0_hasStop_11 : decode cX0_hasStop 11 = .ok (.ireturn, 1) := by decide +kernel
theorem dX0_addSchool_0 : decode cX0_addSchool 0 = .ok (.aload_n 0, 1) := by decide +kernel
theorem dX0_addSchool_1 : decode cX0_addSchool 1 = .ok (.getfield 20, 3) := by decide +kernel
theorem dX0_addSchool_4 : decode cX0_addSchool 4 = .ok (.aload_n 0, 1) := by decide +kernel
theorem dX0_addSchool_5 : decode cX0_addSchool 5 = .ok (.getfield 43, 3) := by decide +kernel
theorem dX0_addSchool_8 : decode cX0_addSchool 8 = .ok (.aaload, 1) := by decide +kernel
theorem dX0_addSchool_9 : decode cX0_addSchool 9 = .ok (.astore_n 3, 1) := by decide +kernel
theorem dX0_addSchool_10 : decode cX0_addSchool 10 = .ok (.aload_n 3, 1) := by decide +kernel
theorem dX0_addSchool_11 : decode cX0_addSchool 11 = .ok (.iload_n 1, 1) := by decide +kernel
theorem dX0_addSchool_12 : decode cX0_addSchool 12 = .ok (.putfield 53, 3) := by decide +kernel
theorem dX0_addSchool_15 : decode cX0_addSchool 15 = .ok (.aload_n 3, 1) := by decide +kernel
theorem dX0_addSchool_16 : decode cX0_addSchool 16 = .ok (.iload_n 2, 1) := by decide +kernel
theorem dX0_addSchool_17 : decode cX0_addSchool 17 = .ok (.putfield 56, 3) := by decide +kernel
theorem dX0_addSchool_20 : decode cX0_addSchool 20 = .ok (.aload_n 3, 1) := by decide +kernel
theorem dX0_addSchool_21 : decode cX0_addSchool 21 = .ok (.iconst 3, 1) := by decide +kernel
theorem dX0_addSchool_22 : decode cX0_addSchool 22 = .ok (.putfield 59, 3) := by decide +kernel
theorem dX0_addSchool_25 : decode cX0_addSchool 25 = .ok (.aload_n 0, 1) := by decide +kernel
theorem dX0_addSchool_26 : decode cX0_addSchool 26 = .ok (.getfield 24, 3) := by decide +kernel
theorem dX0_addSchool_29 : decode cX0_addSchool 29 = .ok (.aload_n 0, 1) := by decide +kernel
theorem dX0_addSchool_30 : decode cX0_addSchool 30 = .ok (.getfield 43, 3) := by decide +kernel
theorem dX0_addSchool_33 : decode cX0_addSchool 33 = .ok (.iconst 0, 1) := by decide +kernel
theorem dX0_addSchool_34 : decode cX0_addSchool 34 = .ok (.iastore, 1) := by decide +kernel
theorem dX0_addSchool_35 : decode cX0_addSchool 35 = .ok (.aload_n 0, 1) := by decide +kernel
theorem dX0_addSchool_36 : decode cX0_addSchool 36 = .ok (.dup, 1) := by decide +kernel
theorem dX0_addSchool_37 : decode cX0_addSchool 37 = .ok (.getfield 43, 3) := by decide +kernel
theorem dX0_addSchool_40 : decode cX0_addSchool 40 = .ok (.iconst 1, 1) := by decide +kernel
theorem dX0_addSchool_41 : decode cX0_addSchool 41 = .ok (.iadd, 1) := by decide +kernel
theorem dX0_addSchool_42 : decode cX0_addSchool 42 = .ok (.putfield 43, 3) := by decide +kernel
theorem dX0_addSchool_45 : decode cX0_addSchool 45 = .ok (.aload_n 0, 1) := by decide +kernel
theorem dX0_addSchool_46 : decode cX0_addSchool 46 = .ok (.getfield 43, 3) := by decide +kernel
theorem dX0_addSchool_49 : decode cX0_addSchool 49 = .ok (.iconst 1, 1) := by decide +kernel
theorem dX0_addSchool_50 : decode cX0_addSchool 50 = .ok (.isub, 1) := by decide +kernel
theorem dX0_addSchool_51 : decode cX0_addSchool 51 = .ok (.ireturn, 1) := by decide +kernel
theorem dX0_addStop_0 : decode cX0_addStop 0 = .ok (.aload_n 0, 1) := by decide +kernel
theorem dX0_addStop_1 : decode cX0_addStop 1 = .ok (.getfield 30, 3) := by decide +kernel
theorem dX0_addStop_4 : decode cX0_addStop 4 = .ok (.aload_n 0, 1) := by decide +kernel
theorem dX0_addStop_5 : decode cX0_addStop 5 = .ok (.getfield 50, 3) := by decide +kernel
theorem dX0_addStop_8 : decode cX0_addStop 8 = .ok (.aaload, 1) := by decide +kernel
theorem dX0_addStop_9 : decode cX0_addStop 9 = .ok (.astore 5, 2) := by decide +kernel
theorem dX0_addStop_11 : decode cX0_addStop 11 = .ok (.aload 5, 2) := by decide +kernel
theorem dX0_addStop_13 : decode cX0_addStop 13 = .ok (.iload_n 1, 1) := by decide +kernel
theorem dX0_addStop_14 : decode cX0_addStop 14 = .ok (.putfield 62, 3) := by decide +kernel
theorem dX0_addStop_17 : decode cX0_addStop 17 = .ok (.aload 5, 2) := by decide +kernel
theorem dX0_addStop_19 : decode cX0_addStop 19 = .ok (.iload_n 2, 1) := by decide +kernel
theorem dX0_addStop_20 : decode cX0_addStop 20 = .ok (.putfield 65, 3) := by decide +kernel
theorem dX0_addStop_23 : decode cX0_addStop 23 = .ok (.aload 5, 2) := by decide +kernel
theorem dX0_addStop_25 : decode cX0_addStop 25 = .ok (.iload_n 3, 1) := by decide +kernel
theorem dX0_addStop_26 : decode cX0_addStop 26 = .ok (.putfield 66, 3) := by decide +kernel
theorem dX0_addStop_29 : decode cX0_addStop 29 = .ok (.aload 5, 2) := by decide +kernel
theorem dX0_addStop_31 : decode cX0_addStop 31 = .ok (.iload 4, 2) := by decide +kernel
theorem dX0_addStop_33 : decode cX0_addStop 33 = .ok (.putfield 69, 3) := by decide +kernel
theorem dX0_addStop_36 : decode cX0_addStop 36 = .ok (.aload_n 0, 1) := by decide +kernel
theorem dX0_addStop_37 : decode cX0_addStop 37 = .ok (.dup, 1) := by decide +kernel
theorem dX0_addStop_38 : decode cX0_addStop 38 = .ok (.getfield 50, 3) := by decide +kernel
theorem dX0_addStop_41 : decode cX0_addStop 41 = .ok (.iconst 1, 1) := by decide +kernel
theorem dX0_addStop_42 : decode cX0_addStop 42 = .ok (.iadd, 1) := by decide +kernel
theorem dX0_addStop_43 : decode cX0_addStop 43 = .ok (.putfield 50, 3) := by decide +kernel
theorem dX0_addStop_46 : decode cX0_addStop 46 = .ok (.aload_n 0, 1) := by decide +kernel
theorem dX0_addStop_47 : decode cX0_addStop 47 = .ok (.getfield 50, 3) := by decide +kernel
theorem dX0_addStop_50 : decode cX0_addStop 50 = .ok (.iconst 1, 1) := by decide +kernel
theorem dX0_addStop_51 : decode cX0_addStop 51 = .ok (.isub, 1) := by decide +kernel
theorem dX0_addStop_52 : decode cX0_addStop 52 = .ok (.ireturn, 1) := by decide +kernel
theorem dX0_removeStop_0 : decode cX0_removeStop 0 = .ok (.aload_n 0, 1) := by decide +kernel
theorem dX0_removeStop_1 : decode cX0_removeStop 1 = .ok (.getfield 30, 3) := by decide +kernel
theorem dX0_removeStop_4 : decode cX0_removeStop 4 = .ok (.iload_n 1, 1) := by decide +kernel
theorem dX0_removeStop_5 : decode cX0_removeStop 5 = .ok (.aaload, 1) := by decide +kernel
theorem dX0_removeStop_6 : decode cX0_removeStop 6 = .ok (.astore_n 2, 1) := by decide +kernel
theorem dX0_removeStop_7 : decode cX0_removeStop 7 = .ok (.iload_n 1, 1) := by decide +kernel
theorem dX0_removeStop_8 : decode cX0_removeStop 8 = .ok (.istore_n 3, 1) := by decide +kernel
theorem dX0_removeStop_9 : decode cX0_removeStop 9 = .ok (.iload_n 3, 1) := by decide +kernel
theorem dX0_removeStop_10 : decode cX0_removeStop 10 = .ok (.iconst 1, 1) := by decide +kernel
theorem dX0_removeStop_11 : decode cX0_removeStop 11 = .ok (.iadd, 1) := by decide +kernel
theorem dX0_removeStop_12 : decode cX0_removeStop 12 = .ok (.aload_n 0, 1) := by decide +kernel
theorem dX0_removeStop_13 : decode cX0_removeStop 13 = .ok (.getfield 50, 3) := by decide +kernel
theorem dX0_removeStop_16 : decode cX0_removeStop 16 = .ok (.if_icmp .ge 23, 3) := by decide +kernel
theorem dX0_removeStop_19 : decode cX0_removeStop 19 = .ok (.aload_n 0, 1) := by decide +kernel
theorem dX0_removeStop_20 : decode cX0_removeStop 20 = .ok (.getfield 30, 3) := by decide +kernel
theorem dX0_removeStop_23 : decode cX0_removeStop 23 = .ok (.iload_n 3, 1) := by decide +kernel
theorem dX0_removeStop_24 : decode cX0_removeStop 24 = .ok (.aload_n 0, 1) := by decide +kernel
theorem dX0_removeStop_25 : decode cX0_removeStop 25 = .ok (.getfield 30, 3) := by decide +kernel
theorem dX0_removeStop_28 : decode cX0_removeStop 28 = .ok (.iload_n 3, 1) := by decide +kernel
theorem dX0_removeStop_29 : decode cX0_removeStop 29 = .ok (.iconst 1, 1) := by decide +kernel
theorem dX0_removeStop_30 : decode cX0_removeStop 30 = .ok (.iadd, 1) := by decide +kernel
theorem dX0_removeStop_31 : decode cX0_removeStop 31 = .ok (.aaload, 1) := by decide +kernel
theorem dX0_removeStop_32 : decode cX0_removeStop 32 = .ok (.aastore, 1) := by decide +kernel
theorem dX0_removeStop_33 : decode cX0_removeStop 33 = .ok (.iinc 3 1, 3) := by decide +kernel
theorem dX0_removeStop_36 : decode cX0_removeStop 36 = .ok (.goto (-27), 3) := by decide +kernel
theorem dX0_removeStop_39 : decode cX0_removeStop 39 = .ok (.aload_n 0, 1) := by decide +kernel
theorem dX0_removeStop_40 : decode cX0_removeStop 40 = .ok (.dup, 1) := by decide +kernel
theorem dX0_removeStop_41 : decode cX0_removeStop 41 = .ok (.getfield 50, 3) := by decide +kernel
theorem dX0_removeStop_44 : decode cX0_removeStop 44 = .ok (.iconst 1, 1) := by decide +kernel
theorem dX0_removeStop_45 : decode cX0_removeStop 45 = .ok (.isub, 1) := by decide +kernel
theorem dX0_removeStop_46 : decode cX0_removeStop 46 = .ok (.putfield 50, 3) := by decide +kernel
theorem dX0_removeStop_49 : decode cX0_removeStop 49 = .ok (.aload_n 0, 1) := by decide +kernel
theorem dX0_removeStop_50 : decode cX0_removeStop 50 = .ok (.getfield 30, 3) := by decide +kernel
theorem dX0_removeStop_53 : decode cX0_removeStop 53 = .ok (.aload_n 0, 1) := by decide +kernel
theorem dX0_removeStop_54 : decode cX0_removeStop 54 = .ok (.getfield 50, 3) := by decide +kernel
theorem dX0_removeStop_57 : decode cX0_removeStop 57 = .ok (.aload_n 2, 1) := by decide +kernel
theorem dX0_removeStop_58 : decode cX0_removeStop 58 = .ok (.aastore, 1) := by decide +kernel
theorem dX0_removeStop_59 : decode cX0_removeStop 59 = .ok (.return_, 1) := by decide +kernel
theorem dX0_rings_0 : decode cX0_rings 0 = .ok (.bipush 60, 2) := by decide +kernel
theorem dX0_rings_2 : decode cX0_rings 2 = .ok (.bipush 20, 2) := by decide +kernel
theorem dX0_rings_4 : decode cX0_rings 4 = .ok (.aload_n 0, 1) := by decide +kernel
theorem dX0_rings_5 : decode cX0_rings 5 = .ok (.getfield 24, 3) := by decide +kernel
theorem dX0_rings_8 : decode cX0_rings 8 = .ok (.iload_n 1, 1) := by decide +kernel
theorem dX0_rings_9 : decode cX0_rings 9 = .ok (.iaload, 1) := by decide +kernel
theorem dX0_rings_10 : decode cX0_rings 10 = .ok (.imul, 1) := by decide +kernel
theorem dX0_rings_11 : decode cX0_rings 11 = .ok (.iadd, 1) := by decide +kernel
theorem dX0_rings_12 : decode cX0_rings 12 = .ok (.ireturn, 1) := by decide +kernel
theorem dX0_longest_0 : decode cX0_longest 0 = .ok (.aload_n 0, 1) := by decide +kernel
theorem dX0_longest_1 : decode cX0_longest 1 = .ok (.getfield 20, 3) := by decide +kernel
theorem dX0_longest_4 : decode cX0_longest 4 = .ok (.iload_n 1, 1) := by decide +kernel
theorem dX0_longest_5 : decode cX0_longest 5 = .ok (.aaload, 1) := by decide +kernel
theorem dX0_longest_6 : decode cX0_longest 6 = .ok (.getfield 53, 3) := by decide +kernel
theorem dX0_longest_9 : decode cX0_longest 9 = .ok (.iconst 3, 1) := by decide +kernel
theorem dX0_longest_10 : decode cX0_longest 10 = .ok (.if_icmp .ne 12, 3) := by decide +kernel
theorem dX0_longest_13 : decode cX0_longest 13 = .ok (.aload_n 0, 1) := by decide +kernel
theorem dX0_longest_14 : decode cX0_longest 14 = .ok (.getfield 38, 3) := by decide +kernel
theorem dX0_longest_17 : decode cX0_longest 17 = .ok (.iconst 2, 1) := by decide +kernel
theorem dX0_longest_18 : decode cX0_longest 18 = .ok (.idiv, 1) := by decide +kernel
theorem dX0_longest_19 : decode cX0_longest 19 = .ok (.goto 7, 3) := by decide +kernel
theorem dX0_longest_22 : decode cX0_longest 22 = .ok (.aload_n 0, 1) := by decide +kernel
theorem dX0_longest_23 : decode cX0_longest 23 = .ok (.getfield 38, 3) := by decide +kernel
theorem dX0_longest_26 : decode cX0_longest 26 = .ok (.ireturn, 1) := by decide +kernel
theorem dX0_stopsOf_0 : decode cX0_stopsOf 0 = .ok (.iconst 0, 1) := by decide +kernel
theorem dX0_stopsOf_1 : decode cX0_stopsOf 1 = .ok (.istore_n 2, 1) := by decide +kernel
theorem dX0_stopsOf_2 : decode cX0_stopsOf 2 = .ok (.iconst 0, 1) := by decide +kernel
theorem dX0_stopsOf_3 : decode cX0_stopsOf 3 = .ok (.istore_n 3, 1) := by decide +kernel
theorem dX0_stopsOf_4 : decode cX0_stopsOf 4 = .ok (.iload_n 3, 1) := by decide +kernel
theorem dX0_stopsOf_5 : decode cX0_stopsOf 5 = .ok (.aload_n 0, 1) := by decide +kernel
theorem dX0_stopsOf_6 : decode cX0_stopsOf 6 = .ok (.getfield 50, 3) := by decide +kernel
theorem dX0_stopsOf_9 : decode cX0_stopsOf 9 = .ok (.if_icmp .ge 25, 3) := by decide +kernel
theorem dX0_stopsOf_12 : decode cX0_stopsOf 12 = .ok (.aload_n 0, 1) := by decide +kernel
theorem dX0_stopsOf_13 : decode cX0_stopsOf 13 = .ok (.getfield 30, 3) := by decide +kernel
theorem dX0_stopsOf_16 : decode cX0_stopsOf 16 = .ok (.iload_n 3, 1) := by decide +kernel
theorem dX0_stopsOf_17 : decode cX0_stopsOf 17 = .ok (.aaload, 1) := by decide +kernel
theorem dX0_stopsOf_18 : decode cX0_stopsOf 18 = .ok (.getfield 62, 3) := by decide +kernel
theorem dX0_stopsOf_21 : decode cX0_stopsOf 21 = .ok (.iload_n 1, 1) := by decide +kernel
theorem dX0_stopsOf_22 : decode cX0_stopsOf 22 = .ok (.if_icmp .ne 6, 3) := by decide +kernel
theorem dX0_stopsOf_25 : decode cX0_stopsOf 25 = .ok (.iinc 2 1, 3) := by decide +kernel
theorem dX0_stopsOf_28 : decode cX0_stopsOf 28 = .ok (.iinc 3 1, 3) := by decide +kernel
theorem dX0_stopsOf_31 : decode cX0_stopsOf 31 = .ok (.goto (-27), 3) := by decide +kernel
theorem dX0_stopsOf_34 : decode cX0_stopsOf 34 = .ok (.iload_n 2, 1) := by decide +kernel
theorem dX0_stopsOf_35 : decode cX0_stopsOf 35 = .ok (.ireturn, 1) := by decide +kernel
theorem dX0_pupilsOf_0 : decode cX0_pupilsOf 0 = .ok (.iconst 0, 1) := by decide +kernel
theorem dX0_pupilsOf_1 : decode cX0_pupilsOf 1 = .ok (.istore_n 2, 1) := by decide +kernel
theorem dX0_pupilsOf_2 : decode cX0_pupilsOf 2 = .ok (.iconst 0, 1) := by decide +kernel
theorem dX0_pupilsOf_3 : decode cX0_pupilsOf 3 = .ok (.istore_n 3, 1) := by decide +kernel
theorem dX0_pupilsOf_4 : decode cX0_pupilsOf 4 = .ok (.iload_n 3, 1) := by decide +kernel
theorem dX0_pupilsOf_5 : decode cX0_pupilsOf 5 = .ok (.aload_n 0, 1) := by decide +kernel
theorem dX0_pupilsOf_6 : decode cX0_pupilsOf 6 = .ok (.getfield 50, 3) := by decide +kernel
theorem dX0_pupilsOf_9 : decode cX0_pupilsOf 9 = .ok (.if_icmp .ge 34, 3) := by decide +kernel
theorem dX0_pupilsOf_12 : decode cX0_pupilsOf 12 = .ok (.aload_n 0, 1) := by decide +kernel
theorem dX0_pupilsOf_13 : decode cX0_pupilsOf 13 = .ok (.getfield 30, 3) := by decide +kernel
theorem dX0_pupilsOf_16 : decode cX0_pupilsOf 16 = .ok (.iload_n 3, 1) := by decide +kernel
theorem dX0_pupilsOf_17 : decode cX0_pupilsOf 17 = .ok (.aaload, 1) := by decide +kernel
theorem dX0_pupilsOf_18 : decode cX0_pupilsOf 18 = .ok (.getfield 62, 3) := by decide +kernel
theorem dX0_pupilsOf_21 : decode cX0_pupilsOf 21 = .ok (.iload_n 1, 1) := by decide +kernel
theorem dX0_pupilsOf_22 : decode cX0_pupilsOf 22 = .ok (.if_icmp .ne 15, 3) := by decide +kernel
theorem dX0_pupilsOf_25 : decode cX0_pupilsOf 25 = .ok (.iload_n 2, 1) := by decide +kernel
theorem dX0_pupilsOf_26 : decode cX0_pupilsOf 26 = .ok (.aload_n 0, 1) := by decide +kernel
theorem dX0_pupilsOf_27 : decode cX0_pupilsOf 27 = .ok (.getfield 30, 3) := by decide +kernel
theorem dX0_pupilsOf_30 : decode cX0_pupilsOf 30 = .ok (.iload_n 3, 1) := by decide +kernel
theorem dX0_pupilsOf_31 : decode cX0_pupilsOf 31 = .ok (.aaload, 1) := by decide +kernel
theorem dX0_pupilsOf_32 : decode cX0_pupilsOf 32 = .ok (.getfield 66, 3) := by decide +kernel
theorem dX0_pupilsOf_35 : decode cX0_pupilsOf 35 = .ok (.iadd, 1) := by decide +kernel
theorem dX0_pupilsOf_36 : decode cX0_pupilsOf 36 = .ok (.istore_n 2, 1) := by decide +kernel
theorem dX0_pupilsOf_37 : decode cX0_pupilsOf 37 = .ok (.iinc 3 1, 3) := by decide +kernel
theorem dX0_pupilsOf_40 : decode cX0_pupilsOf 40 = .ok (.goto (-36), 3) := by decide +kernel
theorem dX0_pupilsOf_43 : decode cX0_pupilsOf 43 = .ok (.iload_n 2, 1) := by decide +kernel
theorem dX0_pupilsOf_44 : decode cX0_pupilsOf 44 = .ok (.ireturn, 1) := by decide +kernel
theorem dX0_costOf_0 : decode cX0_costOf 0 = .ok (.bipush 20, 2) := by decide +kernel
theorem dX0_costOf_2 : decode cX0_costOf 2 = .ok (.aload_n 0, 1) := by decide +kernel
theorem dX0_costOf_3 : decode cX0_costOf 3 = .ok (.iload_n 1, 1) := by decide +kernel
theorem dX0_costOf_4 : decode cX0_costOf 4 = .ok (.invokevirtual 72, 3) := by decide +kernel
theorem dX0_costOf_7 : decode cX0_costOf 7 = .ok (.imul, 1) := by decide +kernel
theorem dX0_costOf_8 : decode cX0_costOf 8 = .ok (.iload_n 2, 1) := by decide +kernel
theorem dX0_costOf_9 : decode cX0_costOf 9 = .ok (.aload_n 0, 1) := by decide +kernel
theorem dX0_costOf_10 : decode cX0_costOf 10 = .ok (.getfield 20, 3) := by decide +kernel
theorem dX0_costOf_13 : decode cX0_costOf 13 = .ok (.iload_n 1, 1) := by decide +kernel
theorem dX0_costOf_14 : decode cX0_costOf 14 = .ok (.aaload, 1) := by decide +kernel
theorem dX0_costOf_15 : decode cX0_costOf 15 = .ok (.getfield 59, 3) := by decide +kernel
theorem dX0_costOf_18 : decode cX0_costOf 18 = .ok (.isub, 1) := by decide +kernel
theorem dX0_costOf_19 : decode cX0_costOf 19 = .ok (.invokestatic 76, 3) := by decide +kernel
theorem dX0_costOf_22 : decode cX0_costOf 22 = .ok (.imul, 1) := by decide +kernel
theorem dX0_costOf_23 : decode cX0_costOf 23 = .ok (.ireturn, 1) := by decide +kernel
theorem dX0_minutesFrom_0 : decode cX0_minutesFrom 0 = .ok (.aload_n 1, 1) := by decide +kernel
theorem dX0_minutesFrom_1 : decode cX0_minutesFrom 1 = .ok (.getfield 81, 3) := by decide +kernel
theorem dX0_minutesFrom_4 : decode cX0_minutesFrom 4 = .ok (.iload_n 2, 1) := by decide +kernel
theorem dX0_minutesFrom_5 : decode cX0_minutesFrom 5 = .ok (.iconst 1, 1) := by decide +kernel
theorem dX0_minutesFrom_6 : decode cX0_minutesFrom 6 = .ok (.iadd, 1) := by decide +kernel
theorem dX0_minutesFrom_7 : decode cX0_minutesFrom 7 = .ok (.iaload, 1) := by decide +kernel
theorem dX0_minutesFrom_8 : decode cX0_minutesFrom 8 = .ok (.istore 5, 2) := by decide +kernel
theorem dX0_minutesFrom_10 : decode cX0_minutesFrom 10 = .ok (.iconst 0, 1) := by decide +kernel
theorem dX0_minutesFrom_11 : decode cX0_minutesFrom 11 = .ok (.istore 6, 2) := by decide +kernel
theorem dX0_minutesFrom_13 : decode cX0_minutesFrom 13 = .ok (.iload_n 3, 1) := by decide +kernel
theorem dX0_minutesFrom_14 : decode cX0_minutesFrom 14 = .ok (.istore 7, 2) := by decide +kernel
theorem dX0_minutesFrom_16 : decode cX0_minutesFrom 16 = .ok (.iload 7, 2) := by decide +kernel
theorem dX0_minutesFrom_18 : decode cX0_minutesFrom 18 = .ok (.iload 5, 2) := by decide +kernel
theorem dX0_minutesFrom_20 : decode cX0_minutesFrom 20 = .ok (.if_icmp .ge 76, 3) := by decide +kernel
theorem dX0_minutesFrom_23 : decode cX0_minutesFrom 23 = .ok (.aload_n 0, 1) := by decide +kernel
theorem dX0_minutesFrom_24 : decode cX0_minutesFrom 24 = .ok (.getfield 30, 3) := by decide +kernel
theorem dX0_minutesFrom_27 : decode cX0_minutesFrom 27 = .ok (.aload_n 1, 1) := by decide +kernel
theorem dX0_minutesFrom_28 : decode cX0_minutesFrom 28 = .ok (.getfield 84, 3) := by decide +kernel
theorem dX0_minutesFrom_31 : decode cX0_minutesFrom 31 = .ok (.iload 7, 2) := by decide +kernel
theorem dX0_minutesFrom_33 : decode cX0_minutesFrom 33 = .ok (.iaload, 1) := by decide +kernel
theorem dX0_minutesFrom_34 : decode cX0_minutesFrom 34 = .ok (.aaload, 1) := by decide +kernel
theorem dX0_minutesFrom_35 : decode cX0_minutesFrom 35 = .ok (.getfield 65, 3) := by decide +kernel
theorem dX0_minutesFrom_38 : decode cX0_minutesFrom 38 = .ok (.istore 8, 2) := by decide +kernel
theorem dX0_minutesFrom_40 : decode cX0_minutesFrom 40 = .ok (.iload 7, 2) := by decide +kernel
theorem dX0_minutesFrom_42 : decode cX0_minutesFrom 42 = .ok (.iconst 1, 1) := by decide +kernel
theorem dX0_minutesFrom_43 : decode cX0_minutesFrom 43 = .ok (.iadd, 1) := by decide +kernel
theorem dX0_minutesFrom_44 : decode cX0_minutesFrom 44 = .ok (.iload 5, 2) := by decide +kernel
theorem dX0_minutesFrom_46 : decode cX0_minutesFrom 46 = .ok (.if_icmp .ge 23, 3) := by decide +kernel
theorem dX0_minutesFrom_49 : decode cX0_minutesFrom 49 = .ok (.aload_n 0, 1) := by decide +kernel
theorem dX0_minutesFrom_50 : decode cX0_minutesFrom 50 = .ok (.getfield 30, 3) := by decide +kernel
theorem dX0_minutesFrom_53 : decode cX0_minutesFrom 53 = .ok (.aload_n 1, 1) := by decide +kernel
theorem dX0_minutesFrom_54 : decode cX0_minutesFrom 54 = .ok (.getfield 84, 3) := by decide +kernel
theorem dX0_minutesFrom_57 : decode cX0_minutesFrom 57 = .ok (.iload 7, 2) := by decide +kernel
theorem dX0_minutesFrom_59 : decode cX0_minutesFrom 59 = .ok (.iconst 1, 1) := by decide +kernel
theorem dX0_minutesFrom_60 : decode cX0_minutesFrom 60 = .ok (.iadd, 1) := by decide +kernel
theorem dX0_minutesFrom_61 : decode cX0_minutesFrom 61 = .ok (.iaload, 1) := by decide +kernel
theorem dX0_minutesFrom_62 : decode cX0_minutesFrom 62 = .ok (.aaload, 1) := by decide +kernel
theorem dX0_minutesFrom_63 : decode cX0_minutesFrom 63 = .ok (.getfield 65, 3) := by decide +kernel
theorem dX0_minutesFrom_66 : decode cX0_minutesFrom 66 = .ok (.goto 7, 3) := by decide +kernel
theorem dX0_minutesFrom_69 : decode cX0_minutesFrom 69 = .ok (.aload_n 1, 1) := by decide +kernel
theorem dX0_minutesFrom_70 : decode cX0_minutesFrom 70 = .ok (.getfield 56, 3) := by decide +kernel
theorem dX0_minutesFrom_73 : decode cX0_minutesFrom 73 = .ok (.istore 9, 2) := by decide +kernel
theorem dX0_minutesFrom_75 : decode cX0_minutesFrom 75 = .ok (.iload 6, 2) := by decide +kernel
theorem dX0_minutesFrom_77 : decode cX0_minutesFrom 77 = .ok (.iconst 1, 1) := by decide +kernel
theorem dX0_minutesFrom_78 : decode cX0_minutesFrom 78 = .ok (.aload 4, 2) := by decide +kernel
theorem dX0_minutesFrom_80 : decode cX0_minutesFrom 80 = .ok (.iload 8, 2) := by decide +kernel
theorem dX0_minutesFrom_82 : decode cX0_minutesFrom 82 = .ok (.aaload, 1) := by decide +kernel
theorem dX0_minutesFrom_83 : decode cX0_minutesFrom 83 = .ok (.iload 9, 2) := by decide +kernel
theorem dX0_minutesFrom_85 : decode cX0_minutesFrom 85 = .ok (.iaload, 1) := by decide +kernel
theorem dX0_minutesFrom_86 : decode cX0_minutesFrom 86 = .ok (.iadd, 1) := by decide +kernel
theorem dX0_minutesFrom_87 : decode cX0_minutesFrom 87 = .ok (.iadd, 1) := by decide +kernel
theorem dX0_minutesFrom_88 : decode cX0_minutesFrom 88 = .ok (.istore 6, 2) := by decide +kernel
theorem dX0_minutesFrom_90 : decode cX0_minutesFrom 90 = .ok (.iinc 7 1, 3) := by decide +kernel
theorem dX0_minutesFrom_93 : decode cX0_minutesFrom 93 = .ok (.goto (-77), 3) := by decide +kernel
theorem dX0_minutesFrom_96 : decode cX0_minutesFrom 96 = .ok (.iload 6, 2) := by decide +kernel
theorem dX0_minutesFrom_98 : decode cX0_minutesFrom 98 = .ok (.ireturn, 1) := by decide +kernel
theorem dX0_rideOf_0 : decode cX0_rideOf 0 = .ok (.aload_n 0, 1) := by decide +kernel
theorem dX0_rideOf_1 : decode cX0_rideOf 1 = .ok (.getfield 20, 3) := by decide +kernel
theorem dX0_rideOf_4 : decode cX0_rideOf 4 = .ok (.aload_n 0, 1) := by decide +kernel
theorem dX0_rideOf_5 : decode cX0_rideOf 5 = .ok (.getfield 30, 3) := by decide +kernel
theorem dX0_rideOf_8 : decode cX0_rideOf 8 = .ok (.iload_n 1, 1) := by decide +kernel
theorem dX0_rideOf_9 : decode cX0_rideOf 9 = .ok (.aaload, 1) := by decide +kernel
theorem dX0_rideOf_10 : decode cX0_rideOf 10 = .ok (.getfield 62, 3) := by decide +kernel
theorem dX0_rideOf_13 : decode cX0_rideOf 13 = .ok (.aaload, 1) := by decide +kernel
theorem dX0_rideOf_14 : decode cX0_rideOf 14 = .ok (.astore_n 2, 1) := by decide +kernel
theorem dX0_rideOf_15 : decode cX0_rideOf 15 = .ok (.iconst 0, 1) := by decide +kernel
theorem dX0_rideOf_16 : decode cX0_rideOf 16 = .ok (.istore_n 3, 1) := by decide +kernel
theorem dX0_rideOf_17 : decode cX0_rideOf 17 = .ok (.iload_n 3, 1) := by decide +kernel
theorem dX0_rideOf_18 : decode cX0_rideOf 18 = .ok (.aload_n 2, 1) := by decide +kernel
theorem dX0_rideOf_19 : decode cX0_rideOf 19 = .ok (.getfield 87, 3) := by decide +kernel
theorem dX0_rideOf_22 : decode cX0_rideOf 22 = .ok (.if_icmp .ge 63, 3) := by decide +kernel
theorem dX0_rideOf_25 : decode cX0_rideOf 25 = .ok (.aload_n 2, 1) := by decide +kernel
theorem dX0_rideOf_26 : decode cX0_rideOf 26 = .ok (.getfield 81, 3) := by decide +kernel
theorem dX0_rideOf_29 : decode cX0_rideOf 29 = .ok (.iload_n 3, 1) := by decide +kernel
theorem dX0_rideOf_30 : decode cX0_rideOf 30 = .ok (.iaload, 1) := by decide +kernel
theorem dX0_rideOf_31 : decode cX0_rideOf 31 = .ok (.istore 4, 2) := by decide +kernel
theorem dX0_rideOf_33 : decode cX0_rideOf 33 = .ok (.iload 4, 2) := by decide +kernel
theorem dX0_rideOf_35 : decode cX0_rideOf 35 = .ok (.aload_n 2, 1) := by decide +kernel
theorem dX0_rideOf_36 : decode cX0_rideOf 36 = .ok (.getfield 81, 3) := by decide +kernel
theorem dX0_rideOf_39 : decode cX0_rideOf 39 = .ok (.iload_n 3, 1) := by decide +kernel
theorem dX0_rideOf_40 : decode cX0_rideOf 40 = .ok (.iconst 1, 1) := by decide +kernel
theorem dX0_rideOf_41 : decode cX0_rideOf 41 = .ok (.iadd, 1) := by decide +kernel
theorem dX0_rideOf_42 : decode cX0_rideOf 42 = .ok (.iaload, 1) := by decide +kernel
theorem dX0_rideOf_43 : decode cX0_rideOf 43 = .ok (.if_icmp .ge 36, 3) := by decide +kernel
theorem dX0_rideOf_46 : decode cX0_rideOf 46 = .ok (.aload_n 2, 1) := by decide +kernel
theorem dX0_rideOf_47 : decode cX0_rideOf 47 = .ok (.getfield 84, 3) := by decide +kernel
theorem dX0_rideOf_50 : decode cX0_rideOf 50 = .ok (.iload 4, 2) := by decide +kernel
theorem dX0_rideOf_52 : decode cX0_rideOf 52 = .ok (.iaload, 1) := by decide +kernel
theorem dX0_rideOf_53 : decode cX0_rideOf 53 = .ok (.iload_n 1, 1) := by decide +kernel
theorem dX0_rideOf_54 : decode cX0_rideOf 54 = .ok (.if_icmp .ne 19, 3) := by decide +kernel
theorem dX0_rideOf_57 : decode cX0_rideOf 57 = .ok (.aload_n 0, 1) := by decide +kernel
theorem dX0_rideOf_58 : decode cX0_rideOf 58 = .ok (.aload_n 2, 1) := by decide +kernel
theorem dX0_rideOf_59 : decode cX0_rideOf 59 = .ok (.iload_n 3, 1) := by decide +kernel
theorem dX0_rideOf_60 : decode cX0_rideOf 60 = .ok (.iload 4, 2) := by decide +kernel
theorem dX0_rideOf_62 : decode cX0_rideOf 62 = .ok (.aload_n 0, 1) := by decide +kernel
theorem dX0_rideOf_63 : decode cX0_rideOf 63 = .ok (.getfield 12, 3) := by decide +kernel
theorem dX0_rideOf_66 : decode cX0_rideOf 66 = .ok (.invokevirtual 90, 3) := by decide +kernel
theorem dX0_rideOf_69 : decode cX0_rideOf 69 = .ok (.invokevirtual 94, 3) := by decide +kernel
theorem dX0_rideOf_72 : decode cX0_rideOf 72 = .ok (.ireturn, 1) := by decide +kernel
theorem dX0_rideOf_73 : decode cX0_rideOf 73 = .ok (.iinc 4 1, 3) := by decide +kernel
theorem dX0_rideOf_76 : decode cX0_rideOf 76 = .ok (.goto (-43), 3) := by decide +kernel
theorem dX0_rideOf_79 : decode cX0_rideOf 79 = .ok (.iinc 3 1, 3) := by decide +kernel
theorem dX0_rideOf_82 : decode cX0_rideOf 82 = .ok (.goto (-65), 3) := by decide +kernel
theorem dX0_rideOf_85 : decode cX0_rideOf 85 = .ok (.iconst 0, 1) := by decide +kernel
theorem dX0_rideOf_86 : decode cX0_rideOf 86 = .ok (.ireturn, 1) := by decide +kernel
theorem dX0_pupilsFrom_0 : decode cX0_pupilsFrom 0 = .ok (.iconst 0, 1) := by decide +kernel
theorem dX0_pupilsFrom_1 : decode cX0_pupilsFrom 1 = .ok (.istore_n 2, 1) := by decide +kernel
theorem dX0_pupilsFrom_2 : decode cX0_pupilsFrom 2 = .ok (.iconst 0, 1) := by decide +kernel
theorem dX0_pupilsFrom_3 : decode cX0_pupilsFrom 3 = .ok (.istore_n 3, 1) := by decide +kernel
theorem dX0_pupilsFrom_4 : decode cX0_pupilsFrom 4 = .ok (.iload_n 3, 1) := by decide +kernel
theorem dX0_pupilsFrom_5 : decode cX0_pupilsFrom 5 = .ok (.aload_n 0, 1) := by decide +kernel
theorem dX0_pupilsFrom_6 : decode cX0_pupilsFrom 6 = .ok (.getfield 50, 3) := by decide +kernel
theorem dX0_pupilsFrom_9 : decode cX0_pupilsFrom 9 = .ok (.if_icmp .ge 34, 3) := by decide +kernel
theorem dX0_pupilsFrom_12 : decode cX0_pupilsFrom 12 = .ok (.aload_n 0, 1) := by decide +kernel
theorem dX0_pupilsFrom_13 : decode cX0_pupilsFrom 13 = .ok (.getfield 30, 3) := by decide +kernel
theorem dX0_pupilsFrom_16 : decode cX0_pupilsFrom 16 = .ok (.iload_n 3, 1) := by decide +kernel
theorem dX0_pupilsFrom_17 : decode cX0_pupilsFrom 17 = .ok (.aaload, 1) := by decide +kernel
theorem dX0_pupilsFrom_18 : decode cX0_pupilsFrom 18 = .ok (.getfield 69, 3) := by decide +kernel
theorem dX0_pupilsFrom_21 : decode cX0_pupilsFrom 21 = .ok (.iload_n 1, 1) := by decide +kernel
theorem dX0_pupilsFrom_22 : decode cX0_pupilsFrom 22 = .ok (.if_icmp .ne 15, 3) := by decide +kernel
theorem dX0_pupilsFrom_25 : decode cX0_pupilsFrom 25 = .ok (.iload_n 2, 1) := by decide +kernel
theorem dX0_pupilsFrom_26 : decode cX0_pupilsFrom 26 = .ok (.aload_n 0, 1) := by decide +kernel
theorem dX0_pupilsFrom_27 : decode cX0_pupilsFrom 27 = .ok (.getfield 30, 3) := by decide +kernel
theorem dX0_pupilsFrom_30 : decode cX0_pupilsFrom 30 = .ok (.iload_n 3, 1) := by decide +kernel
theorem dX0_pupilsFrom_31 : decode cX0_pupilsFrom 31 = .ok (.aaload, 1) := by decide +kernel
theorem dX0_pupilsFrom_32 : decode cX0_pupilsFrom 32 = .ok (.getfield 66, 3) := by decide +kernel
theorem dX0_pupilsFrom_35 : decode cX0_pupilsFrom 35 = .ok (.iadd, 1) := by decide +kernel
theorem dX0_pupilsFrom_36 : decode cX0_pupilsFrom 36 = .ok (.istore_n 2, 1) := by decide +kernel
theorem dX0_pupilsFrom_37 : decode cX0_pupilsFrom 37 = .ok (.iinc 3 1, 3) := by decide +kernel
theorem dX0_pupilsFrom_40 : decode cX0_pupilsFrom 40 = .ok (.goto (-36), 3) := by decide +kernel
theorem dX0_pupilsFrom_43 : decode cX0_pupilsFrom 43 = .ok (.iload_n 2, 1) := by decide +kernel
theorem dX0_pupilsFrom_44 : decode cX0_pupilsFrom 44 = .ok (.ireturn, 1) := by decide +kernel
theorem dX0_ridesFrom_0 : decode cX0_ridesFrom 0 = .ok (.iconst 0, 1) := by decide +kernel
theorem dX0_ridesFrom_1 : decode cX0_ridesFrom 1 = .ok (.istore_n 2, 1) := by decide +kernel
theorem dX0_ridesFrom_2 : decode cX0_ridesFrom 2 = .ok (.iconst 0, 1) := by decide +kernel
theorem dX0_ridesFrom_3 : decode cX0_ridesFrom 3 = .ok (.istore_n 3, 1) := by decide +kernel
theorem dX0_ridesFrom_4 : decode cX0_ridesFrom 4 = .ok (.iload_n 3, 1) := by decide +kernel
theorem dX0_ridesFrom_5 : decode cX0_ridesFrom 5 = .ok (.aload_n 0, 1) := by decide +kernel
theorem dX0_ridesFrom_6 : decode cX0_ridesFrom 6 = .ok (.getfield 50, 3) := by decide +kernel
theorem dX0_ridesFrom_9 : decode cX0_ridesFrom 9 = .ok (.if_icmp .ge 40, 3) := by decide +kernel
theorem dX0_ridesFrom_12 : decode cX0_ridesFrom 12 = .ok (.aload_n 0, 1) := by decide +kernel
theorem dX0_ridesFrom_13 : decode cX0_ridesFrom 13 = .ok (.getfield 30, 3) := by decide +kernel
theorem dX0_ridesFrom_16 : decode cX0_ridesFrom 16 = .ok (.iload_n 3, 1) := by decide +kernel
theorem dX0_ridesFrom_17 : decode cX0_ridesFrom 17 = .ok (.aaload, 1) := by decide +kernel
theorem dX0_ridesFrom_18 : decode cX0_ridesFrom 18 = .ok (.getfield 69, 3) := by decide +kernel
theorem dX0_ridesFrom_21 : decode cX0_ridesFrom 21 = .ok (.iload_n 1, 1) := by decide +kernel
theorem dX0_ridesFrom_22 : decode cX0_ridesFrom 22 = .ok (.if_icmp .ne 21, 3) := by decide +kernel
theorem dX0_ridesFrom_25 : decode cX0_ridesFrom 25 = .ok (.iload_n 2, 1) := by decide +kernel
theorem dX0_ridesFrom_26 : decode cX0_ridesFrom 26 = .ok (.aload_n 0, 1) := by decide +kernel
theorem dX0_ridesFrom_27 : decode cX0_ridesFrom 27 = .ok (.getfield 30, 3) := by decide +kernel
theorem dX0_ridesFrom_30 : decode cX0_ridesFrom 30 = .ok (.iload_n 3, 1) := by decide +kernel
theorem dX0_ridesFrom_31 : decode cX0_ridesFrom 31 = .ok (.aaload, 1) := by decide +kernel
theorem dX0_ridesFrom_32 : decode cX0_ridesFrom 32 = .ok (.getfield 66, 3) := by decide +kernel
theorem dX0_ridesFrom_35 : decode cX0_ridesFrom 35 = .ok (.aload_n 0, 1) := by decide +kernel
theorem dX0_ridesFrom_36 : decode cX0_ridesFrom 36 = .ok (.iload_n 3, 1) := by decide +kernel
theorem dX0_ridesFrom_37 : decode cX0_ridesFrom 37 = .ok (.invokevirtual 98, 3) := by decide +kernel
theorem dX0_ridesFrom_40 : decode cX0_ridesFrom 40 = .ok (.imul, 1) := by decide +kernel
theorem dX0_ridesFrom_41 : decode cX0_ridesFrom 41 = .ok (.iadd, 1) := by decide +kernel
theorem dX0_ridesFrom_42 : decode cX0_ridesFrom 42 = .ok (.istore_n 2, 1) := by decide +kernel
theorem dX0_ridesFrom_43 : decode cX0_ridesFrom 43 = .ok (.iinc 3 1, 3) := by decide +kernel
theorem dX0_ridesFrom_46 : decode cX0_ridesFrom 46 = .ok (.goto (-42), 3) := by decide +kernel
theorem dX0_ridesFrom_49 : decode cX0_ridesFrom 49 = .ok (.iload_n 2, 1) := by decide +kernel
theorem dX0_ridesFrom_50 : decode cX0_ridesFrom 50 = .ok (.ireturn, 1) := by decide +kernel
theorem dX0_greatestRide_0 : decode cX0_greatestRide 0 = .ok (.iconst 0, 1) := by decide +kernel
theorem dX0_greatestRide_1 : decode cX0_greatestRide 1 = .ok (.istore_n 2, 1) := by decide +kernel
theorem dX0_greatestRide_2 : decode cX0_greatestRide 2 = .ok (.iconst 0, 1) := by decide +kernel
theorem dX0_greatestRide_3 : decode cX0_greatestRide 3 = .ok (.istore_n 3, 1) := by decide +kernel
theorem dX0_greatestRide_4 : decode cX0_greatestRide 4 = .ok (.iload_n 3, 1) := by decide +kernel
theorem dX0_greatestRide_5 : decode cX0_greatestRide 5 = .ok (.aload_n 0, 1) := by decide +kernel
theorem dX0_greatestRide_6 : decode cX0_greatestRide 6 = .ok (.getfield 50, 3) := by decide +kernel
theorem dX0_greatestRide_9 : decode cX0_greatestRide 9 = .ok (.if_icmp .ge 32, 3) := by decide +kernel
theorem dX0_greatestRide_12 : decode cX0_greatestRide 12 = .ok (.aload_n 0, 1) := by decide +kernel
theorem dX0_greatestRide_13 : decode cX0_greatestRide 13 = .ok (.getfield 30, 3) := by decide +kernel
theorem dX0_greatestRide_16 : decode cX0_greatestRide 16 = .ok (.iload_n 3, 1) := by decide +kernel
theorem dX0_greatestRide_17 : decode cX0_greatestRide 17 = .ok (.aaload, 1) := by decide +kernel
theorem dX0_greatestRide_18 : decode cX0_greatestRide 18 = .ok (.getfield 69, 3) := by decide +kernel
theorem dX0_greatestRide_21 : decode cX0_greatestRide 21 = .ok (.iload_n 1, 1) := by decide +kernel
theorem dX0_greatestRide_22 : decode cX0_greatestRide 22 = .ok (.if_icmp .ne 13, 3) := by decide +kernel
theorem dX0_greatestRide_25 : decode cX0_greatestRide 25 = .ok (.iload_n 2, 1) := by decide +kernel
theorem dX0_greatestRide_26 : decode cX0_greatestRide 26 = .ok (.aload_n 0, 1) := by decide +kernel
theorem dX0_greatestRide_27 : decode cX0_greatestRide 27 = .ok (.iload_n 3, 1) := by decide +kernel
theorem dX0_greatestRide_28 : decode cX0_greatestRide 28 = .ok (.invokevirtual 98, 3) := by decide +kernel
theorem dX0_greatestRide_31 : decode cX0_greatestRide 31 = .ok (.invokestatic 101, 3) := by decide +kernel
theorem dX0_greatestRide_34 : decode cX0_greatestRide 34 = .ok (.istore_n 2, 1) := by decide +kernel
theorem dX0_greatestRide_35 : decode cX0_greatestRide 35 = .ok (.iinc 3 1, 3) := by decide +kernel
theorem dX0_greatestRide_38 : decode cX0_greatestRide 38 = .ok (.goto (-34), 3) := by decide +kernel
theorem dX0_greatestRide_41 : decode cX0_greatestRide 41 = .ok (.iload_n 2, 1) := by decide +kernel
theorem dX0_greatestRide_42 : decode cX0_greatestRide 42 = .ok (.ireturn, 1) := by decide +kernel
theorem dX0_earlyFrom_0 : decode cX0_earlyFrom 0 = .ok (.iconst 0, 1) := by decide +kernel
theorem dX0_earlyFrom_1 : decode cX0_earlyFrom 1 = .ok (.istore_n 2, 1) := by decide +kernel
theorem dX0_earlyFrom_2 : decode cX0_earlyFrom 2 = .ok (.iconst 0, 1) := by decide +kernel
theorem dX0_earlyFrom_3 : decode cX0_earlyFrom 3 = .ok (.istore_n 3, 1) := by decide +kernel
theorem dX0_earlyFrom_4 : decode cX0_earlyFrom 4 = .ok (.iload_n 3, 1) := by decide +kernel
theorem dX0_earlyFrom_5 : decode cX0_earlyFrom 5 = .ok (.aload_n 0, 1) := by decide +kernel
theorem dX0_earlyFrom_6 : decode cX0_earlyFrom 6 = .ok (.getfield 50, 3) := by decide +kernel
theorem dX0_earlyFrom_9 : decode cX0_earlyFrom 9 = .ok (.if_icmp .ge 75, 3) := by decide +kernel
theorem dX0_earlyFrom_12 : decode cX0_earlyFrom 12 = .ok (.aload_n 0, 1) := by decide +kernel
theorem dX0_earlyFrom_13 : decode cX0_earlyFrom 13 = .ok (.getfield 30, 3) := by decide +kernel
theorem dX0_earlyFrom_16 : decode cX0_earlyFrom 16 = .ok (.iload_n 3, 1) := by decide +kernel
theorem dX0_earlyFrom_17 : decode cX0_earlyFrom 17 = .ok (.aaload, 1) := by decide +kernel
theorem dX0_earlyFrom_18 : decode cX0_earlyFrom 18 = .ok (.getfield 69, 3) := by decide +kernel
theorem dX0_earlyFrom_21 : decode cX0_earlyFrom 21 = .ok (.iload_n 1, 1) := by decide +kernel
theorem dX0_earlyFrom_22 : decode cX0_earlyFrom 22 = .ok (.if_icmp .ne 56, 3) := by decide +kernel
theorem dX0_earlyFrom_25 : decode cX0_earlyFrom 25 = .ok (.aload_n 0, 1) := by decide +kernel
theorem dX0_earlyFrom_26 : decode cX0_earlyFrom 26 = .ok (.getfield 30, 3) := by decide +kernel
theorem dX0_earlyFrom_29 : decode cX0_earlyFrom 29 = .ok (.iload_n 3, 1) := by decide +kernel
theorem dX0_earlyFrom_30 : decode cX0_earlyFrom 30 = .ok (.aaload, 1) := by decide +kernel
theorem dX0_earlyFrom_31 : decode cX0_earlyFrom 31 = .ok (.getfield 62, 3) := by decide +kernel
theorem dX0_earlyFrom_34 : decode cX0_earlyFrom 34 = .ok (.istore 4, 2) := by decide +kernel
theorem dX0_earlyFrom_36 : decode cX0_earlyFrom 36 = .ok (.iconst 0, 1) := by decide +kernel
theorem dX0_earlyFrom_37 : decode cX0_earlyFrom 37 = .ok (.aload_n 0, 1) := by decide +kernel
theorem dX0_earlyFrom_38 : decode cX0_earlyFrom 38 = .ok (.getfield 20, 3) := by decide +kernel
theorem dX0_earlyFrom_41 : decode cX0_earlyFrom 41 = .ok (.iload 4, 2) := by decide +kernel
theorem dX0_earlyFrom_43 : decode cX0_earlyFrom 43 = .ok (.aaload, 1) := by decide +kernel
theorem dX0_earlyFrom_44 : decode cX0_earlyFrom 44 = .ok (.getfield 59, 3) := by decide +kernel
theorem dX0_earlyFrom_47 : decode cX0_earlyFrom 47 = .ok (.aload_n 0, 1) := by decide +kernel
theorem dX0_earlyFrom_48 : decode cX0_earlyFrom 48 = .ok (.getfield 24, 3) := by decide +kernel
theorem dX0_earlyFrom_51 : decode cX0_earlyFrom 51 = .ok (.iload 4, 2) := by decide +kernel
theorem dX0_earlyFrom_53 : decode cX0_earlyFrom 53 = .ok (.iaload, 1) := by decide +kernel
theorem dX0_earlyFrom_54 : decode cX0_earlyFrom 54 = .ok (.isub, 1) := by decide +kernel
theorem dX0_earlyFrom_55 : decode cX0_earlyFrom 55 = .ok (.invokestatic 101, 3) := by decide +kernel
theorem dX0_earlyFrom_58 : decode cX0_earlyFrom 58 = .ok (.istore 5, 2) := by decide +kernel
theorem dX0_earlyFrom_60 : decode cX0_earlyFrom 60 = .ok (.iload_n 2, 1) := by decide +kernel
theorem dX0_earlyFrom_61 : decode cX0_earlyFrom 61 = .ok (.aload_n 0, 1) := by decide +kernel
theorem dX0_earlyFrom_62 : decode cX0_earlyFrom 62 = .ok (.getfield 30, 3) := by decide +kernel
theorem dX0_earlyFrom_65 : decode cX0_earlyFrom 65 = .ok (.iload_n 3, 1) := by decide +kernel
theorem dX0_earlyFrom_66 : decode cX0_earlyFrom 66 = .ok (.aaload, 1) := by decide +kernel
theorem dX0_earlyFrom_67 : decode cX0_earlyFrom 67 = .ok (.getfield 66, 3) := by decide +kernel
theorem dX0_earlyFrom_70 : decode cX0_earlyFrom 70 = .ok (.bipush 20, 2) := by decide +kernel
theorem dX0_earlyFrom_72 : decode cX0_earlyFrom 72 = .ok (.imul, 1) := by decide +kernel
theorem dX0_earlyFrom_73 : decode cX0_earlyFrom 73 = .ok (.iload 5, 2) := by decide +kernel
theorem dX0_earlyFrom_75 : decode cX0_earlyFrom 75 = .ok (.imul, 1) := by decide +kernel
theorem dX0_earlyFrom_76 : decode cX0_earlyFrom 76 = .ok (.iadd, 1) := by decide +kernel
theorem dX0_earlyFrom_77 : decode cX0_earlyFrom 77 = .ok (.istore_n 2, 1) := by decide +kernel
theorem dX0_earlyFrom_78 : decode cX0_earlyFrom 78 = .ok (.iinc 3 1, 3) := by decide +kernel
theorem dX0_earlyFrom_81 : decode cX0_earlyFrom 81 = .ok (.goto (-77), 3) := by decide +kernel
theorem dX0_earlyFrom_84 : decode cX0_earlyFrom 84 = .ok (.iload_n 2, 1) := by decide +kernel
theorem dX0_earlyFrom_85 : decode cX0_earlyFrom 85 = .ok (.ireturn, 1) := by decide +kernel
theorem dX1_init_0 : decode cX1_init 0 = .ok (.aload_n 0, 1) := by decide +kernel
theorem dX1_init_1 : decode cX1_init 1 = .ok (.invokespecial 3, 3) := by decide +kernel
theorem dX1_init_4 : decode cX1_init 4 = .ok (.aload_n 0, 1) := by decide +kernel
theorem dX1_init_5 : decode cX1_init 5 = .ok (.bipush 10, 2) := by decide +kernel
theorem dX1_init_7 : decode cX1_init 7 = .ok (.newarray .int, 2) := by decide +kernel
theorem dX1_init_9 : decode cX1_init 9 = .ok (.putfield 9, 3) := by decide +kernel
theorem dX1_init_12 : decode cX1_init 12 = .ok (.aload_n 0, 1) := by decide +kernel
theorem dX1_init_13 : decode cX1_init 13 = .ok (.bipush 10, 2) := by decide +kernel
theorem dX1_init_15 : decode cX1_init 15 = .ok (.newarray .int, 2) := by decide +kernel
theorem dX1_init_17 : decode cX1_init 17 = .ok (.putfield 15, 3) := by decide +kernel
theorem dX1_init_20 : decode cX1_init 20 = .ok (.aload_n 0, 1) := by decide +kernel
theorem dX1_init_21 : decode cX1_init 21 = .ok (.bipush 10, 2) := by decide +kernel
theorem dX1_init_23 : decode cX1_init 23 = .ok (.newarray .int, 2) := by decide +kernel
theorem dX1_init_25 : decode cX1_init 25 = .ok (.putfield 18, 3) := by decide +kernel
theorem dX1_init_28 : decode cX1_init 28 = .ok (.aload_n 0, 1) := by decide +kernel
theorem dX1_init_29 : decode cX1_init 29 = .ok (.bipush 10, 2) := by decide +kernel
theorem dX1_init_31 : decode cX1_init 31 = .ok (.bipush 10, 2) := by decide +kernel
theorem dX1_init_33 : decode cX1_init 33 = .ok (.multianewarray 21 2, 4) := by decide +kernel
theorem dX1_init_37 : decode cX1_init 37 = .ok (.putfield 23, 3) := by decide +kernel
theorem dX1_init_40 : decode cX1_init 40 = .ok (.aload_n 0, 1) := by decide +kernel
theorem dX1_init_41 : decode cX1_init 41 = .ok (.new 26, 3) := by decide +kernel
theorem dX1_init_44 : decode cX1_init 44 = .ok (.dup, 1) := by decide +kernel
theorem dX1_init_45 : decode cX1_init 45 = .ok (.invokespecial 28, 3) := by decide +kernel
theorem dX1_init_48 : decode cX1_init 48 = .ok (.putfield 29, 3) := by decide +kernel
theorem dX1_init_51 : decode cX1_init 51 = .ok (.return_, 1) := by decide +kernel
theorem dX1_has_0 : decode cX1_has 0 = .ok (.aload_n 0, 1) := by decide +kernel
theorem dX1_has_1 : decode cX1_has 1 = .ok (.getfield 33, 3) := by decide +kernel
theorem dX1_has_4 : decode cX1_has 4 = .ok (.ifCond .eq 21, 3) := by decide +kernel
theorem dX1_has_7 : decode cX1_has 7 = .ok (.iload_n 1, 1) := by decide +kernel
theorem dX1_has_8 : decode cX1_has 8 = .ok (.iconst 0, 1) := by decide +kernel
theorem dX1_has_9 : decode cX1_has 9 = .ok (.aload_n 0, 1) := by decide +kernel
theorem dX1_has_10 : decode cX1_has 10 = .ok (.getfield 37, 3) := by decide +kernel
theorem dX1_has_13 : decode cX1_has 13 = .ok (.iconst 1, 1) := by decide +kernel
theorem dX1_has_14 : decode cX1_has 14 = .ok (.isub, 1) := by decide +kernel
theorem dX1_has_15 : decode cX1_has 15 = .ok (.invokestatic 41, 3) := by decide +kernel
theorem dX1_has_18 : decode cX1_has 18 = .ok (.ifCond .eq 7, 3) := by decide +kernel
theorem dX1_has_21 : decode cX1_has 21 = .ok (.iconst 1, 1) := by decide +kernel
theorem dX1_has_22 : decode cX1_has 22 = .ok (.goto 4, 3) := by decide +kernel
theorem dX1_has_25 : decode cX1_has 25 = .ok (.iconst 0, 1) := by decide +kernel
theorem dX1_has_26 : decode cX1_has 26 = .ok (.ireturn, 1) := by decide +kernel
theorem dX1_gather_0 : decode cX1_gather 0 = .ok (.aload_n 0, 1) := by decide +kernel
theorem dX1_gather_1 : decode cX1_gather 1 = .ok (.iconst 1, 1) := by decide +kernel
theorem dX1_gather_2 : decode cX1_gather 2 = .ok (.putfield 33, 3) := by decide +kernel
theorem dX1_gather_5 : decode cX1_gather 5 = .ok (.aload_n 0, 1) := by decide +kernel
theorem dX1_gather_6 : decode cX1_gather 6 = .ok (.iconst 0, 1) := by decide +kernel
theorem dX1_gather_7 : decode cX1_gather 7 = .ok (.putfield 37, 3) := by decide +kernel
theorem dX1_gather_10 : decode cX1_gather 10 = .ok (.aload_n 0, 1) := by decide +kernel
theorem dX1_gather_11 : decode cX1_gather 11 = .ok (.iconst 0, 1) := by decide +kernel
theorem dX1_gather_12 : decode cX1_gather 12 = .ok (.putfield 45, 3) := by decide +kernel
theorem dX1_gather_15 : decode cX1_gather 15 = .ok (.iconst 0, 1) := by decide +kernel
theorem dX1_gather_16 : decode cX1_gather 16 = .ok (.istore_n 2, 1) := by decide +kernel
theorem dX1_gather_17 : decode cX1_gather 17 = .ok (.iload_n 2, 1) := by decide +kernel
theorem dX1_gather_18 : decode cX1_gather 18 = .ok (.aload_n 1, 1) := by decide +kernel
theorem dX1_gather_19 : decode cX1_gather 19 = .ok (.getfield 48, 3) := by decide +kernel
theorem dX1_gather_22 : decode cX1_gather 22 = .ok (.if_icmp .ge 112, 3) := by decide +kernel
theorem dX1_gather_25 : decode cX1_gather 25 = .ok (.aload_n 1, 1) := by decide +kernel
theorem dX1_gather_26 : decode cX1_gather 26 = .ok (.getfield 53, 3) := by decide +kernel
theorem dX1_gather_29 : decode cX1_gather 29 = .ok (.iload_n 2, 1) := by decide +kernel
theorem dX1_gather_30 : decode cX1_gather 30 = .ok (.aaload, 1) := by decide +kernel
theorem dX1_gather_31 : decode cX1_gather 31 = .ok (.astore_n 3, 1) := by decide +kernel
theorem dX1_gather_32 : decode cX1_gather 32 = .ok (.aload_n 0, 1) := by decide +kernel
theorem dX1_gather_33 : decode cX1_gather 33 = .ok (.aload_n 0, 1) := by decide +kernel
theorem dX1_gather_34 : decode cX1_gather 34 = .ok (.getfield 33, 3) := by decide +kernel
theorem dX1_gather_37 : decode cX1_gather 37 = .ok (.ifCond .eq 14, 3) := by decide +kernel
theorem dX1_gather_40 : decode cX1_gather 40 = .ok (.aload_n 3, 1) := by decide +kernel
theorem dX1_gather_41 : decode cX1_gather 41 = .ok (.getfield 57, 3) := by decide +kernel
theorem dX1_gather_44 : decode cX1_gather 44 = .ok (.ifCond .eq 7, 3) := by decide +kernel
theorem dX1_gather_47 : decode cX1_gather 47 = .ok (.iconst 1, 1) := by decide +kernel
theorem dX1_gather_48 : decode cX1_gather 48 = .ok (.goto 4, 3) := by decide +kernel
theorem dX1_gather_51 : decode cX1_gather 51 = .ok (.iconst 0, 1) := by decide +kernel
theorem dX1_gather_52 : decode cX1_gather 52 = .ok (.putfield 33, 3) := by decide +kernel
theorem dX1_gather_55 : decode cX1_gather 55 = .ok (.aload_n 0, 1) := by decide +kernel
theorem dX1_gather_56 : decode cX1_gather 56 = .ok (.aload_n 0, 1) := by decide +kernel
theorem dX1_gather_57 : decode cX1_gather 57 = .ok (.getfield 45, 3) := by decide +kernel
theorem dX1_gather_60 : decode cX1_gather 60 = .ok (.aload_n 3, 1) := by decide +kernel
theorem dX1_gather_61 : decode cX1_gather 61 = .ok (.getfield 62, 3) := by decide +kernel
theorem dX1_gather_64 : decode cX1_gather 64 = .ok (.invokestatic 65, 3) := by decide +kernel
theorem dX1_gather_67 : decode cX1_gather 67 = .ok (.putfield 45, 3) := by decide +kernel
theorem dX1_gather_70 : decode cX1_gather 70 = .ok (.iconst 0, 1) := by decide +kernel
theorem dX1_gather_71 : decode cX1_gather 71 = .ok (.istore 4, 2) := by decide +kernel
theorem dX1_gather_73 : decode cX1_gather 73 = .ok (.iload 4, 2) := by decide +kernel
theorem dX1_gather_75 : decode cX1_gather 75 = .ok (.aload_n 3, 1) := by decide +kernel
theorem dX1_gather_76 : decode cX1_gather 76 = .ok (.getfield 62, 3) := by decide +kernel
theorem dX1_gather_79 : decode cX1_gather 79 = .ok (.if_icmp .ge 49, 3) := by decide +kernel
theorem dX1_gather_82 : decode cX1_gather 82 = .ok (.aload_n 0, 1) := by decide +kernel
theorem dX1_gather_83 : decode cX1_gather 83 = .ok (.getfield 37, 3) := by decide +kernel
theorem dX1_gather_86 : decode cX1_gather 86 = .ok (.bipush 10, 2) := by decide +kernel
theorem dX1_gather_88 : decode cX1_gather 88 = .ok (.if_icmp .ge 40, 3) := by decide +kernel
theorem dX1_gather_91 : decode cX1_gather 91 = .ok (.aload_n 0, 1) := by decide +kernel
theorem dX1_gather_92 : decode cX1_gather 92 = .ok (.getfield 9, 3) := by decide +kernel
theorem dX1_gather_95 : decode cX1_gather 95 = .ok (.aload_n 0, 1) := by decide +kernel
theorem dX1_gather_96 : decode cX1_gather 96 = .ok (.getfield 37, 3) := by decide +kernel
theorem dX1_gather_99 : decode cX1_gather 99 = .ok (.iload_n 2, 1) := by decide +kernel
theorem dX1_gather_100 : decode cX1_gather 100 = .ok (.iastore, 1) := by decide +kernel
theorem dX1_gather_101 : decode cX1_gather 101 = .ok (.aload_n 0, 1) := by decide +kernel
theorem dX1_gather_102 : decode cX1_gather 102 = .ok (.getfield 18, 3) := by decide +kernel
theorem dX1_gather_105 : decode cX1_gather 105 = .ok (.aload_n 0, 1) := by decide +kernel
theorem dX1_gather_106 : decode cX1_gather 106 = .ok (.getfield 37, 3) := by decide +kernel
theorem dX1_gather_109 : decode cX1_gather 109 = .ok (.iload 4, 2) := by decide +kernel
theorem dX1_gather_111 : decode cX1_gather 111 = .ok (.iastore, 1) := by decide +kernel
theorem dX1_gather_112 : decode cX1_gather 112 = .ok (.aload_n 0, 1) := by decide +kernel
theorem dX1_gather_113 : decode cX1_gather 113 = .ok (.dup, 1) := by decide +kernel
theorem dX1_gather_114 : decode cX1_gather 114 = .ok (.getfield 37, 3) := by decide +kernel
theorem dX1_gather_117 : decode cX1_gather 117 = .ok (.iconst 1, 1) := by decide +kernel
theorem dX1_gather_118 : decode cX1_gather 118 = .ok (.iadd, 1) := by decide +kernel
theorem dX1_gather_119 : decode cX1_gather 119 = .ok (.putfield 37, 3) := by decide +kernel
theorem dX1_gather_122 : decode cX1_gather 122 = .ok (.iinc 4 1, 3) := by decide +kernel
theorem dX1_gather_125 : decode cX1_gather 125 = .ok (.goto (-52), 3) := by decide +kernel
theorem dX1_gather_128 : decode cX1_gather 128 = .ok (.iinc 2 1, 3) := by decide +kernel
theorem dX1_gather_131 : decode cX1_gather 131 = .ok (.goto (-114), 3) := by decide +kernel
theorem dX1_gather_134 : decode cX1_gather 134 = .ok (.iconst 0, 1) := by decide +kernel
theorem dX1_gather_135 : decode cX1_gather 135 = .ok (.istore_n 2, 1) := by decide +kernel
theorem dX1_gather_136 : decode cX1_gather 136 = .ok (.aload_n 0, 1) := by decide +kernel
theorem dX1_gather_137 : decode cX1_gather 137 = .ok (.getfield 33, 3) := by decide +kernel
theorem dX1_gather_140 : decode cX1_gather 140 = .ok (.ifCond .eq 81, 3) := by decide +kernel
theorem dX1_gather_143 : decode cX1_gather 143 = .ok (.iload_n 2, 1) := by decide +kernel
theorem dX1_gather_144 : decode cX1_gather 144 = .ok (.aload_n 0, 1) := by decide +kernel
theorem dX1_gather_145 : decode cX1_gather 145 = .ok (.getfield 37, 3) := by decide +kernel
theorem dX1_gather_148 : decode cX1_gather 148 = .ok (.if_icmp .ge 73, 3) := by decide +kernel
theorem dX1_gather_151 : decode cX1_gather 151 = .ok (.iconst 0, 1) := by decide +kernel
theorem dX1_gather_152 : decode cX1_gather 152 = .ok (.istore_n 3, 1) := by decide +kernel
theorem dX1_gather_153 : decode cX1_gather 153 = .ok (.iload_n 3, 1) := by decide +kernel
theorem dX1_gather_154 : decode cX1_gather 154 = .ok (.aload_n 0, 1) := by decide +kernel
theorem dX1_gather_155 : decode cX1_gather 155 = .ok (.getfield 37, 3) := by decide +kernel
theorem dX1_gather_158 : decode cX1_gather 158 = .ok (.if_icmp .ge 57, 3) := by decide +kernel
theorem dX1_gather_161 : decode cX1_gather 161 = .ok (.aload_n 1, 1) := by decide +kernel
theorem dX1_gather_162 : decode cX1_gather 162 = .ok (.getfield 71, 3) := by decide +kernel
theorem dX1_gather_165 : decode cX1_gather 165 = .ok (.invokevirtual 75, 3) := by decide +kernel
theorem dX1_gather_168 : decode cX1_gather 168 = .ok (.aload_n 0, 1) := by decide +kernel
theorem dX1_gather_169 : decode cX1_gather 169 = .ok (.aload_n 1, 1) := by decide +kernel
theorem dX1_gather_170 : decode cX1_gather 170 = .ok (.iload_n 2, 1) := by decide +kernel
theorem dX1_gather_171 : decode cX1_gather 171 = .ok (.invokevirtual 81, 3) := by decide +kernel
theorem dX1_gather_174 : decode cX1_gather 174 = .ok (.getfield 85, 3) := by decide +kernel
theorem dX1_gather_177 : decode cX1_gather 177 = .ok (.aaload, 1) := by decide +kernel
theorem dX1_gather_178 : decode cX1_gather 178 = .ok (.aload_n 0, 1) := by decide +kernel
theorem dX1_gather_179 : decode cX1_gather 179 = .ok (.aload_n 1, 1) := by decide +kernel
theorem dX1_gather_180 : decode cX1_gather 180 = .ok (.iload_n 3, 1) := by decide +kernel
theorem dX1_gather_181 : decode cX1_gather 181 = .ok (.invokevirtual 88, 3) := by decide +kernel
theorem dX1_gather_184 : decode cX1_gather 184 = .ok (.iaload, 1) := by decide +kernel
theorem dX1_gather_185 : decode cX1_gather 185 = .ok (.istore 4, 2) := by decide +kernel
theorem dX1_gather_187 : decode cX1_gather 187 = .ok (.aload_n 0, 1) := by decide +kernel
theorem dX1_gather_188 : decode cX1_gather 188 = .ok (.getfield 23, 3) := by decide +kernel
theorem dX1_gather_191 : decode cX1_gather 191 = .ok (.iload_n 2, 1) := by decide +kernel
theorem dX1_gather_192 : decode cX1_gather 192 = .ok (.aaload, 1) := by decide +kernel
theorem dX1_gather_193 : decode cX1_gather 193 = .ok (.iload_n 3, 1) := by decide +kernel
theorem dX1_gather_194 : decode cX1_gather 194 = .ok (.iload 4, 2) := by decide +kernel
theorem dX1_gather_196 : decode cX1_gather 196 = .ok (.aload_n 1, 1) := by decide +kernel
theorem dX1_gather_197 : decode cX1_gather 197 = .ok (.getfield 92, 3) := by decide +kernel
theorem dX1_gather_200 : decode cX1_gather 200 = .ok (.iadd, 1) := by decide +kernel
theorem dX1_gather_201 : decode cX1_gather 201 = .ok (.aload_n 0, 1) := by decide +kernel
theorem dX1_gather_202 : decode cX1_gather 202 = .ok (.aload_n 1, 1) := by decide +kernel
theorem dX1_gather_203 : decode cX1_gather 203 = .ok (.iload_n 3, 1) := by decide +kernel
theorem dX1_gather_204 : decode cX1_gather 204 = .ok (.invokevirtual 95, 3) := by decide +kernel
theorem dX1_gather_207 : decode cX1_gather 207 = .ok (.iadd, 1) := by decide +kernel
theorem dX1_gather_208 : decode cX1_gather 208 = .ok (.iastore, 1) := by decide +kernel
theorem dX1_gather_209 : decode cX1_gather 209 = .ok (.iinc 3 1, 3) := by decide +kernel
theorem dX1_gather_212 : decode cX1_gather 212 = .ok (.goto (-59), 3) := by decide +kernel
theorem dX1_gather_215 : decode cX1_gather 215 = .ok (.iinc 2 1, 3) := by decide +kernel
theorem dX1_gather_218 : decode cX1_gather 218 = .ok (.goto (-82), 3) := by decide +kernel
theorem dX1_gather_221 : decode cX1_gather 221 = .ok (.return_, 1) := by decide +kernel
theorem dX1_schoolOf_0 : decode cX1_schoolOf 0 = .ok (.aload_n 1, 1) := by decide +kernel
theorem dX1_schoolOf_1 : decode cX1_schoolOf 1 = .ok (.getfield 53, 3) := by decide +kernel
theorem dX1_schoolOf_4 : decode cX1_schoolOf 4 = .ok (.aload_n 0, 1) := by decide +kernel
theorem dX1_schoolOf_5 : decode cX1_schoolOf 5 = .ok (.getfield 9, 3) := by decide +kernel
theorem dX1_schoolOf_8 : decode cX1_schoolOf 8 = .ok (.iload_n 2, 1) := by decide +kernel
theorem dX1_schoolOf_9 : decode cX1_schoolOf 9 = .ok (.iaload, 1) := by decide +kernel
theorem dX1_schoolOf_10 : decode cX1_schoolOf 10 = .ok (.aaload, 1) := by decide +kernel
theorem dX1_schoolOf_11 : decode cX1_schoolOf 11 = .ok (.areturn, 1) := by decide +kernel
theorem dX1_firstCorner_0 : decode cX1_firstCorner 0 = .ok (.aload_n 0, 1) := by decide +kernel
theorem dX1_firstCorner_1 : decode cX1_firstCorner 1 = .ok (.aload_n 1, 1) := by decide +kernel
theorem dX1_firstCorner_2 : decode cX1_firstCorner 2 = .ok (.iload_n 2, 1) := by decide +kernel
theorem dX1_firstCorner_3 : decode cX1_firstCorner 3 = .ok (.invokevirtual 81, 3) := by decide +kernel
theorem dX1_firstCorner_6 : decode cX1_firstCorner 6 = .ok (.astore_n 3, 1) := by decide +kernel
theorem dX1_firstCorner_7 : decode cX1_firstCorner 7 = .ok (.aload_n 1, 1) := by decide +kernel
theorem dX1_firstCorner_8 : decode cX1_firstCorner 8 = .ok (.getfield 98, 3) := by decide +kernel
theorem dX1_firstCorner_11 : decode cX1_firstCorner 11 = .ok (.aload_n 3, 1) := by decide +kernel
theorem dX1_firstCorner_12 : decode cX1_firstCorner 12 = .ok (.getfield 102, 3) := by decide +kernel
theorem dX1_firstCorner_15 : decode cX1_firstCorner 15 = .ok (.aload_n 3, 1) := by decide +kernel
theorem dX1_firstCorner_16 : decode cX1_firstCorner 16 = .ok (.getfield 105, 3) := by decide +kernel
theorem dX1_firstCorner_19 : decode cX1_firstCorner 19 = .ok (.aload_n 0, 1) := by decide +kernel
theorem dX1_firstCorner_20 : decode cX1_firstCorner 20 = .ok (.getfield 18, 3) := by decide +kernel
theorem dX1_firstCorner_23 : decode cX1_firstCorner 23 = .ok (.iload_n 2, 1) := by decide +kernel
theorem dX1_firstCorner_24 : decode cX1_firstCorner 24 = .ok (.iaload, 1) := by decide +kernel
theorem dX1_firstCorner_25 : decode cX1_firstCorner 25 = .ok (.iaload, 1) := by decide +kernel
theorem dX1_firstCorner_26 : decode cX1_firstCorner 26 = .ok (.iaload, 1) := by decide +kernel
theorem dX1_firstCorner_27 : decode cX1_firstCorner 27 = .ok (.aaload, 1) := by decide +kernel
theorem dX1_firstCorner_28 : decode cX1_firstCorner 28 = .ok (.getfield 108, 3) := by decide +kernel
theorem dX1_firstCorner_31 : decode cX1_firstCorner 31 = .ok (.ireturn, 1) := by decide +kernel
theorem dX1_lengthOf_0 : decode cX1_lengthOf 0 = .ok (.aload_n 0, 1) := by decide +kernel
theorem dX1_lengthOf_1 : decode cX1_lengthOf 1 = .ok (.aload_n 1, 1) := by decide +kernel
theorem dX1_lengthOf_2 : decode cX1_lengthOf 2 = .ok (.iload_n 2, 1) := by decide +kernel
theorem dX1_lengthOf_3 : decode cX1_lengthOf 3 = .ok (.invokevirtual 81, 3) := by decide +kernel
theorem dX1_lengthOf_6 : decode cX1_lengthOf 6 = .ok (.getfield 111, 3) := by decide +kernel
theorem dX1_lengthOf_9 : decode cX1_lengthOf 9 = .ok (.aload_n 0, 1) := by decide +kernel
theorem dX1_lengthOf_10 : decode cX1_lengthOf 10 = .ok (.getfield 18, 3) := by decide +kernel
theorem dX1_lengthOf_13 : decode cX1_lengthOf 13 = .ok (.iload_n 2, 1) := by decide +kernel
theorem dX1_lengthOf_14 : decode cX1_lengthOf 14 = .ok (.iaload, 1) := by decide +kernel
theorem dX1_lengthOf_15 : decode cX1_lengthOf 15 = .ok (.iaload, 1) := by decide +kernel
theorem dX1_lengthOf_16 : decode cX1_lengthOf 16 = .ok (.ireturn, 1) := by decide +kernel
theorem dX1_lengthOn_0 : decode cX1_lengthOn 0 = .ok (.aload_n 0, 1) := by decide +kernel
theorem dX1_lengthOn_1 : decode cX1_lengthOn 1 = .ok (.aload_n 1, 1) := by decide +kernel
theorem dX1_lengthOn_2 : decode cX1_lengthOn 2 = .ok (.iload_n 2, 1) := by decide +kernel
theorem dX1_lengthOn_3 : decode cX1_lengthOn 3 = .ok (.invokevirtual 81, 3) := by decide +kernel
theorem dX1_lengthOn_6 : decode cX1_lengthOn 6 = .ok (.astore 4, 2) := by decide +kernel
theorem dX1_lengthOn_8 : decode cX1_lengthOn 8 = .ok (.aload_n 1, 1) := by decide +kernel
theorem dX1_lengthOn_9 : decode cX1_lengthOn 9 = .ok (.aload 4, 2) := by decide +kernel
theorem dX1_lengthOn_11 : decode cX1_lengthOn 11 = .ok (.aload_n 0, 1) := by decide +kernel
theorem dX1_lengthOn_12 : decode cX1_lengthOn 12 = .ok (.getfield 18, 3) := by decide +kernel
theorem dX1_lengthOn_15 : decode cX1_lengthOn 15 = .ok (.iload_n 2, 1) := by decide +kernel
theorem dX1_lengthOn_16 : decode cX1_lengthOn 16 = .ok (.iaload, 1) := by decide +kernel
theorem dX1_lengthOn_17 : decode cX1_lengthOn 17 = .ok (.aload 4, 2) := by decide +kernel
theorem dX1_lengthOn_19 : decode cX1_lengthOn 19 = .ok (.getfield 105, 3) := by decide +kernel
theorem dX1_lengthOn_22 : decode cX1_lengthOn 22 = .ok (.aload_n 0, 1) := by decide +kernel
theorem dX1_lengthOn_23 : decode cX1_lengthOn 23 = .ok (.getfield 18, 3) := by decide +kernel
theorem dX1_lengthOn_26 : decode cX1_lengthOn 26 = .ok (.iload_n 2, 1) := by decide +kernel
theorem dX1_lengthOn_27 : decode cX1_lengthOn 27 = .ok (.iaload, 1) := by decide +kernel
theorem dX1_lengthOn_28 : decode cX1_lengthOn 28 = .ok (.iaload, 1) := by decide +kernel
theorem dX1_lengthOn_29 : decode cX1_lengthOn 29 = .ok (.aload_n 3, 1) := by decide +kernel
theorem dX1_lengthOn_30 : decode cX1_lengthOn 30 = .ok (.invokevirtual 114, 3) := by decide +kernel
theorem dX1_lengthOn_33 : decode cX1_lengthOn 33 = .ok (.ireturn, 1) := by decide +kernel
theorem dX1_startOf_0 : decode cX1_startOf 0 = .ok (.aload_n 1, 1) := by decide +kernel
theorem dX1_startOf_1 : decode cX1_startOf 1 = .ok (.aload_n 0, 1) := by decide +kernel
theorem dX1_startOf_2 : decode cX1_startOf 2 = .ok (.getfield 9, 3) := by decide +kernel
theorem dX1_startOf_5 : decode cX1_startOf 5 = .ok (.iload_n 2, 1) := by decide +kernel
theorem dX1_startOf_6 : decode cX1_startOf 6 = .ok (.iaload, 1) := by decide +kernel
theorem dX1_startOf_7 : decode cX1_startOf 7 = .ok (.invokevirtual 118, 3) := by decide +kernel
theorem dX1_startOf_10 : decode cX1_startOf 10 = .ok (.aload_n 0, 1) := by decide +kernel
theorem dX1_startOf_11 : decode cX1_startOf 11 = .ok (.aload_n 1, 1) := by decide +kernel
theorem dX1_startOf_12 : decode cX1_startOf 12 = .ok (.iload_n 2, 1) := by decide +kernel
theorem dX1_startOf_13 : decode cX1_startOf 13 = .ok (.invokevirtual 95, 3) := by decide +kernel
theorem dX1_startOf_16 : decode cX1_startOf 16 = .ok (.isub, 1) := by decide +kernel
theorem dX1_startOf_17 : decode cX1_startOf 17 = .ok (.ireturn, 1) := by decide +kernel
theorem dX1_pupilsOn_0 : decode cX1_pupilsOn 0 = .ok (.aload_n 0, 1) := by decide +kernel
theorem dX1_pupilsOn_1 : decode cX1_pupilsOn 1 = .ok (.aload_n 1, 1) := by decide +kernel
theorem dX1_pupilsOn_2 : decode cX1_pupilsOn 2 = .ok (.iload_n 2, 1) := by decide +kernel
theorem dX1_pupilsOn_3 : decode cX1_pupilsOn 3 = .ok (.invokevirtual 81, 3) := by decide +kernel
theorem dX1_pupilsOn_6 : decode cX1_pupilsOn 6 = .ok (.astore_n 3, 1) := by decide +kernel
theorem dX1_pupilsOn_7 : decode cX1_pupilsOn 7 = .ok (.iconst 0, 1) := by decide +kernel
theorem dX1_pupilsOn_8 : decode cX1_pupilsOn 8 = .ok (.istore 4, 2) := by decide +kernel
theorem dX1_pupilsOn_10 : decode cX1_pupilsOn 10 = .ok (.aload_n 3, 1) := by decide +kernel
theorem dX1_pupilsOn_11 : decode cX1_pupilsOn 11 = .ok (.getfield 105, 3) := by decide +kernel
theorem dX1_pupilsOn_14 : decode cX1_pupilsOn 14 = .ok (.aload_n 0, 1) := by decide +kernel
theorem dX1_pupilsOn_15 : decode cX1_pupilsOn 15 = .ok (.getfield 18, 3) := by decide +kernel
theorem dX1_pupilsOn_18 : decode cX1_pupilsOn 18 = .ok (.iload_n 2, 1) := by decide +kernel
theorem dX1_pupilsOn_19 : decode cX1_pupilsOn 19 = .ok (.iaload, 1) := by decide +kernel
theorem dX1_pupilsOn_20 : decode cX1_pupilsOn 20 = .ok (.iaload, 1) := by decide +kernel
theorem dX1_pupilsOn_21 : decode cX1_pupilsOn 21 = .ok (.istore 5, 2) := by decide +kernel
theorem dX1_pupilsOn_23 : decode cX1_pupilsOn 23 = .ok (.iload 5, 2) := by decide +kernel
theorem dX1_pupilsOn_25 : decode cX1_pupilsOn 25 = .ok (.aload_n 3, 1) := by decide +kernel
theorem dX1_pupilsOn_26 : decode cX1_pupilsOn 26 = .ok (.getfield 105, 3) := by decide +kernel
theorem dX1_pupilsOn_29 : decode cX1_pupilsOn 29 = .ok (.aload_n 0, 1) := by decide +kernel
theorem dX1_pupilsOn_30 : decode cX1_pupilsOn 30 = .ok (.getfield 18, 3) := by decide +kernel
theorem dX1_pupilsOn_33 : decode cX1_pupilsOn 33 = .ok (.iload_n 2, 1) := by decide +kernel
theorem dX1_pupilsOn_34 : decode cX1_pupilsOn 34 = .ok (.iaload, 1) := by decide +kernel
theorem dX1_pupilsOn_35 : decode cX1_pupilsOn 35 = .ok (.iconst 1, 1) := by decide +kernel
theorem dX1_pupilsOn_36 : decode cX1_pupilsOn 36 = .ok (.iadd, 1) := by decide +kernel
theorem dX1_pupilsOn_37 : decode cX1_pupilsOn 37 = .ok (.iaload, 1) := by decide +kernel
theorem dX1_pupilsOn_38 : decode cX1_pupilsOn 38 = .ok (.if_icmp .ge 29, 3) := by decide +kernel
theorem dX1_pupilsOn_41 : decode cX1_pupilsOn 41 = .ok (.iload 4, 2) := by decide +kernel
theorem dX1_pupilsOn_43 : decode cX1_pupilsOn 43 = .ok (.aload_n 1, 1) := by decide +kernel
theorem dX1_pupilsOn_44 : decode cX1_pupilsOn 44 = .ok (.getfield 98, 3) := by decide +kernel
theorem dX1_pupilsOn_47 : decode cX1_pupilsOn 47 = .ok (.aload_n 3, 1) := by decide +kernel
theorem dX1_pupilsOn_48 : decode cX1_pupilsOn 48 = .ok (.getfield 102, 3) := by decide +kernel
theorem dX1_pupilsOn_51 : decode cX1_pupilsOn 51 = .ok (.iload 5, 2) := by decide +kernel
theorem dX1_pupilsOn_53 : decode cX1_pupilsOn 53 = .ok (.iaload, 1) := by decide +kernel
theorem dX1_pupilsOn_54 : decode cX1_pupilsOn 54 = .ok (.aaload, 1) := by decide +kernel
theorem dX1_pupilsOn_55 : decode cX1_pupilsOn 55 = .ok (.getfield 122, 3) := by decide +kernel
theorem dX1_pupilsOn_58 : decode cX1_pupilsOn 58 = .ok (.iadd, 1) := by decide +kernel
theorem dX1_pupilsOn_59 : decode cX1_pupilsOn 59 = .ok (.istore 4, 2) := by decide +kernel
theorem dX1_pupilsOn_61 : decode cX1_pupilsOn 61 = .ok (.iinc 5 1, 3) := by decide +kernel
theorem dX1_pupilsOn_64 : decode cX1_pupilsOn 64 = .ok (.goto (-41), 3) := by decide +kernel
theorem dX1_pupilsOn_67 : decode cX1_pupilsOn 67 = .ok (.iload 4, 2) := by decide +kernel
theorem dX1_pupilsOn_69 : decode cX1_pupilsOn 69 = .ok (.ireturn, 1) := by decide +kernel
theorem dX1_canFollow_0 : decode cX1_canFollow 0 = .ok (.bipush 20, 2) := by decide +kernel
theorem dX1_canFollow_2 : decode cX1_canFollow 2 = .ok (.aload_n 1, 1) := by decide +kernel
theorem dX1_canFollow_3 : decode cX1_canFollow 3 = .ok (.aload_n 0, 1) := by decide +kernel
theorem dX1_canFollow_4 : decode cX1_canFollow 4 = .ok (.getfield 9, 3) := by decide +kernel
theorem dX1_canFollow_7 : decode cX1_canFollow 7 = .ok (.iload_n 3, 1) := by decide +kernel
theorem dX1_canFollow_8 : decode cX1_canFollow 8 = .ok (.iaload, 1) := by decide +kernel
theorem dX1_canFollow_9 : decode cX1_canFollow 9 = .ok (.iaload, 1) := by decide +kernel
theorem dX1_canFollow_10 : decode cX1_canFollow 10 = .ok (.aload_n 1, 1) := by decide +kernel
theorem dX1_canFollow_11 : decode cX1_canFollow 11 = .ok (.aload_n 0, 1) := by decide +kernel
theorem dX1_canFollow_12 : decode cX1_canFollow 12 = .ok (.getfield 9, 3) := by decide +kernel
theorem dX1_canFollow_15 : decode cX1_canFollow 15 = .ok (.iload_n 2, 1) := by decide +kernel
theorem dX1_canFollow_16 : decode cX1_canFollow 16 = .ok (.iaload, 1) := by decide +kernel
theorem dX1_canFollow_17 : decode cX1_canFollow 17 = .ok (.iaload, 1) := by decide +kernel
theorem dX1_canFollow_18 : decode cX1_canFollow 18 = .ok (.isub, 1) := by decide +kernel
theorem dX1_canFollow_19 : decode cX1_canFollow 19 = .ok (.imul, 1) := by decide +kernel
theorem dX1_canFollow_20 : decode cX1_canFollow 20 = .ok (.aload_n 0, 1) := by decide +kernel
theorem dX1_canFollow_21 : decode cX1_canFollow 21 = .ok (.getfield 23, 3) := by decide +kernel
theorem dX1_canFollow_24 : decode cX1_canFollow 24 = .ok (.iload_n 2, 1) := by decide +kernel
theorem dX1_canFollow_25 : decode cX1_canFollow 25 = .ok (.aaload, 1) := by decide +kernel
theorem dX1_canFollow_26 : decode cX1_canFollow 26 = .ok (.iload_n 3, 1) := by decide +kernel
theorem dX1_canFollow_27 : decode cX1_canFollow 27 = .ok (.iaload, 1) := by decide +kernel
theorem dX1_canFollow_28 : decode cX1_canFollow 28 = .ok (.if_icmp .lt 7, 3) := by decide +kernel
theorem dX1_canFollow_31 : decode cX1_canFollow 31 = .ok (.iconst 1, 1) := by decide +kernel
theorem dX1_canFollow_32 : decode cX1_canFollow 32 = .ok (.goto 4, 3) := by decide +kernel
theorem dX1_canFollow_35 : decode cX1_canFollow 35 = .ok (.iconst 0, 1) := by decide +kernel
theorem dX1_canFollow_36 : decode cX1_canFollow 36 = .ok (.ireturn, 1) := by decide +kernel
theorem dX1_fewestBuses_0 : decode cX1_fewestBuses 0 = .ok (.aload_n 0, 1) := by decide +kernel
theorem dX1_fewestBuses_1 : decode cX1_fewestBuses 1 = .ok (.aload_n 1, 1) := by decide +kernel
theorem dX1_fewestBuses_2 : decode cX1_fewestBuses 2 = .ok (.invokevirtual 125, 3) := by decide +kernel
theorem dX1_fewestBuses_5 : decode cX1_fewestBuses 5 = .ok (.aload_n 0, 1) := by decide +kernel
theorem dX1_fewestBuses_6 : decode cX1_fewestBuses 6 = .ok (.getfield 37, 3) := by decide +kernel
theorem dX1_fewestBuses_9 : decode cX1_fewestBuses 9 = .ok (.aload_n 0, 1) := by decide +kernel
theorem dX1_fewestBuses_10 : decode cX1_fewestBuses 10 = .ok (.getfield 29, 3) := by decide +kernel
theorem dX1_fewestBuses_13 : decode cX1_fewestBuses 13 = .ok (.iconst 0, 1) := by decide +kernel
theorem dX1_fewestBuses_14 : decode cX1_fewestBuses 14 = .ok (.iconst 1, 1) := by decide +kernel
theorem dX1_fewestBuses_15 : decode cX1_fewestBuses 15 = .ok (.aload_n 0, 1) := by decide +kernel
theorem dX1_fewestBuses_16 : decode cX1_fewestBuses 16 = .ok (.getfield 37, 3) := by decide +kernel
theorem dX1_fewestBuses_19 : decode cX1_fewestBuses 19 = .ok (.ishl, 1) := by decide +kernel
theorem dX1_fewestBuses_20 : decode cX1_fewestBuses 20 = .ok (.iconst 1, 1) := by decide +kernel
theorem dX1_fewestBuses_21 : decode cX1_fewestBuses 21 = .ok (.isub, 1) := by decide +kernel
theorem dX1_fewestBuses_22 : decode cX1_fewestBuses 22 = .ok (.invokevirtual 129, 3) := by decide +kernel
theorem dX1_fewestBuses_25 : decode cX1_fewestBuses 25 = .ok (.isub, 1) := by decide +kernel
theorem dX1_fewestBuses_26 : decode cX1_fewestBuses 26 = .ok (.ireturn, 1) := by decide +kernel
theorem dX1_link_0 : decode cX1_link 0 = .ok (.aload_n 0, 1) := by decide +kernel
theorem dX1_link_1 : decode cX1_link 1 = .ok (.aload_n 1, 1) := by decide +kernel
theorem dX1_link_2 : decode cX1_link 2 = .ok (.invokevirtual 125, 3) := by decide +kernel
theorem dX1_link_5 : decode cX1_link 5 = .ok (.iconst 1, 1) := by decide +kernel
theorem dX1_link_6 : decode cX1_link 6 = .ok (.aload_n 0, 1) := by decide +kernel
theorem dX1_link_7 : decode cX1_link 7 = .ok (.getfield 37, 3) := by decide +kernel
theorem dX1_link_10 : decode cX1_link 10 = .ok (.ishl, 1) := by decide +kernel
theorem dX1_link_11 : decode cX1_link 11 = .ok (.iconst 1, 1) := by decide +kernel
theorem dX1_link_12 : decode cX1_link 12 = .ok (.isub, 1) := by decide +kernel
theorem dX1_link_13 : decode cX1_link 13 = .ok (.istore_n 2, 1) := by decide +kernel
theorem dX1_link_14 : decode cX1_link 14 = .ok (.aload_n 0, 1) := by decide +kernel
theorem dX1_link_15 : decode cX1_link 15 = .ok (.getfield 29, 3) := by decide +kernel
theorem dX1_link_18 : decode cX1_link 18 = .ok (.iconst 0, 1) := by decide +kernel
theorem dX1_link_19 : decode cX1_link 19 = .ok (.iload_n 2, 1) := by decide +kernel
theorem dX1_link_20 : decode cX1_link 20 = .ok (.invokevirtual 129, 3) := by decide +kernel
theorem dX1_link_23 : decode cX1_link 23 = .ok (.istore_n 3, 1) := by decide +kernel
theorem dX1_link_24 : decode cX1_link 24 = .ok (.iconst 0, 1) := by decide +kernel
theorem dX1_link_25 : decode cX1_link 25 = .ok (.istore 4, 2) := by decide +kernel
theorem dX1_link_27 : decode cX1_link 27 = .ok (.iload 4, 2) := by decide +kernel
theorem dX1_link_29 : decode cX1_link 29 = .ok (.aload_n 0, 1) := by decide +kernel
theorem dX1_link_30 : decode cX1_link 30 = .ok (.getfield 37, 3) := by decide +kernel
theorem dX1_link_33 : decode cX1_link 33 = .ok (.if_icmp .ge 109, 3) := by decide +kernel
theorem dX1_link_36 : decode cX1_link 36 = .ok (.aload_n 0, 1) := by decide +kernel
theorem dX1_link_37 : decode cX1_link 37 = .ok (.getfield 15, 3) := by decide +kernel
theorem dX1_link_40 : decode cX1_link 40 = .ok (.iload 4, 2) := by decide +kernel
theorem dX1_link_42 : decode cX1_link 42 = .ok (.iconst (-1), 1) := by decide +kernel
theorem dX1_link_43 : decode cX1_link 43 = .ok (.iastore, 1) := by decide +kernel
theorem dX1_link_44 : decode cX1_link 44 = .ok (.iconst 0, 1) := by decide +kernel
theorem dX1_link_45 : decode cX1_link 45 = .ok (.istore 5, 2) := by decide +kernel
theorem dX1_link_47 : decode cX1_link 47 = .ok (.iload 5, 2) := by decide +kernel
theorem dX1_link_49 : decode cX1_link 49 = .ok (.aload_n 0, 1) := by decide +kernel
theorem dX1_link_50 : decode cX1_link 50 = .ok (.getfield 37, 3) := by decide +kernel
theorem dX1_link_53 : decode cX1_link 53 = .ok (.if_icmp .ge 83, 3) := by decide +kernel
theorem dX1_link_56 : decode cX1_link 56 = .ok (.aload_n 0, 1) := by decide +kernel
theorem dX1_link_57 : decode cX1_link 57 = .ok (.getfield 15, 3) := by decide +kernel
theorem dX1_link_60 : decode cX1_link 60 = .ok (.iload 4, 2) := by decide +kernel
theorem dX1_link_62 : decode cX1_link 62 = .ok (.iaload, 1) := by decide +kernel
theorem dX1_link_63 : decode cX1_link 63 = .ok (.ifCond .ge 73, 3) := by decide +kernel
theorem dX1_link_66 : decode cX1_link 66 = .ok (.iload_n 2, 1) := by decide +kernel
theorem dX1_link_67 : decode cX1_link 67 = .ok (.iconst 1, 1) := by decide +kernel
theorem dX1_link_68 : decode cX1_link 68 = .ok (.iload 5, 2) := by decide +kernel
theorem dX1_link_70 : decode cX1_link 70 = .ok (.ishl, 1) := by decide +kernel
theorem dX1_link_71 : decode cX1_link 71 = .ok (.iconst (-1), 1) := by decide +kernel
theorem dX1_link_72 : decode cX1_link 72 = .ok (.ixor, 1) := by decide +kernel
theorem dX1_link_73 : decode cX1_link 73 = .ok (.iand, 1) := by decide +kernel
theorem dX1_link_74 : decode cX1_link 74 = .ok (.istore 6, 2) := by decide +kernel
theorem dX1_link_76 : decode cX1_link 76 = .ok (.aload_n 0, 1) := by decide +kernel
theorem dX1_link_77 : decode cX1_link 77 = .ok (.getfield 29, 3) := by decide +kernel
theorem dX1_link_80 : decode cX1_link 80 = .ok (.getfield 132, 3) := by decide +kernel
theorem dX1_link_83 : decode cX1_link 83 = .ok (.iload 4, 2) := by decide +kernel
theorem dX1_link_85 : decode cX1_link 85 = .ok (.iaload, 1) := by decide +kernel
theorem dX1_link_86 : decode cX1_link 86 = .ok (.iload_n 2, 1) := by decide +kernel
theorem dX1_link_87 : decode cX1_link 87 = .ok (.iand, 1) := by decide +kernel
theorem dX1_link_88 : decode cX1_link 88 = .ok (.iconst 1, 1) := by decide +kernel
theorem dX1_link_89 : decode cX1_link 89 = .ok (.iload 5, 2) := by decide +kernel
theorem dX1_link_91 : decode cX1_link 91 = .ok (.ishl, 1) := by decide +kernel
theorem dX1_link_92 : decode cX1_link 92 = .ok (.iand, 1) := by decide +kernel
theorem dX1_link_93 : decode cX1_link 93 = .ok (.ifCond .eq 37, 3) := by decide +kernel
theorem dX1_link_96 : decode cX1_link 96 = .ok (.aload_n 0, 1) := by decide +kernel
theorem dX1_link_97 : decode cX1_link 97 = .ok (.getfield 29, 3) := by decide +kernel
theorem dX1_link_100 : decode cX1_link 100 = .ok (.iload 4, 2) := by decide +kernel
theorem dX1_link_102 : decode cX1_link 102 = .ok (.iconst 1, 1) := by decide +kernel
theorem dX1_link_103 : decode cX1_link 103 = .ok (.iadd, 1) := by decide +kernel
theorem dX1_link_104 : decode cX1_link 104 = .ok (.iload 6, 2) := by decide +kernel
theorem dX1_link_106 : decode cX1_link 106 = .ok (.invokevirtual 129, 3) := by decide +kernel
theorem dX1_link_109 : decode cX1_link 109 = .ok (.iload_n 3, 1) := by decide +kernel
theorem dX1_link_110 : decode cX1_link 110 = .ok (.iconst 1, 1) := by decide +kernel
theorem dX1_link_111 : decode cX1_link 111 = .ok (.isub, 1) := by decide +kernel
theorem dX1_link_112 : decode cX1_link 112 = .ok (.if_icmp .ne 18, 3) := by decide +kernel
theorem dX1_link_115 : decode cX1_link 115 = .ok (.aload_n 0, 1) := by decide +kernel
theorem dX1_link_116 : decode cX1_link 116 = .ok (.getfield 15, 3) := by decide +kernel
theorem dX1_link_119 : decode cX1_link 119 = .ok (.iload 4, 2) := by decide +kernel
theorem dX1_link_121 : decode cX1_link 121 = .ok (.iload 5, 2) := by decide +kernel
theorem dX1_link_123 : decode cX1_link 123 = .ok (.iastore, 1) := by decide +kernel
theorem dX1_link_124 : decode cX1_link 124 = .ok (.iload 6, 2) := by decide +kernel
theorem dX1_link_126 : decode cX1_link 126 = .ok (.istore_n 2, 1) := by decide +kernel
theorem dX1_link_127 : decode cX1_link 127 = .ok (.iinc 3 (-1), 3) := by decide +kernel
theorem dX1_link_130 : decode cX1_link 130 = .ok (.iinc 5 1, 3) := by decide +kernel
theorem dX1_link_133 : decode cX1_link 133 = .ok (.goto (-86), 3) := by decide +kernel
theorem dX1_link_136 : decode cX1_link 136 = .ok (.iinc 4 1, 3) := by decide +kernel
theorem dX1_link_139 : decode cX1_link 139 = .ok (.goto (-112), 3) := by decide +kernel
theorem dX1_link_142 : decode cX1_link 142 = .ok (.aload_n 0, 1) := by decide +kernel
theorem dX1_link_143 : decode cX1_link 143 = .ok (.iconst 1, 1) := by decide +kernel
theorem dX1_link_144 : decode cX1_link 144 = .ok (.aload_n 0, 1) := by decide +kernel
theorem dX1_link_145 : decode cX1_link 145 = .ok (.getfield 37, 3) := by decide +kernel
theorem dX1_link_148 : decode cX1_link 148 = .ok (.ishl, 1) := by decide +kernel
theorem dX1_link_149 : decode cX1_link 149 = .ok (.iconst 1, 1) := by decide +kernel
theorem dX1_link_150 : decode cX1_link 150 = .ok (.isub, 1) := by decide +kernel
theorem dX1_link_151 : decode cX1_link 151 = .ok (.iload_n 2, 1) := by decide +kernel
theorem dX1_link_152 : decode cX1_link 152 = .ok (.iconst (-1), 1) := by decide +kernel
theorem dX1_link_153 : decode cX1_link 153 = .ok (.ixor, 1) := by decide +kernel
