theorem dX3_append_9 : decode cX3_append 9 = .ok (.aload_n 0, 1) := by decide +kernel
theorem dX3_append_10 : decode cX3_append 10 = .ok (.getfield 9, 3) := by decide +kernel
theorem dX3_append_13 : decode cX3_append 13 = .ok (.aload_n 0, 1) := by decide +kernel
theorem dX3_append_14 : decode cX3_append 14 = .ok (.getfield 15, 3) := by decide +kernel
theorem dX3_append_17 : decode cX3_append 17 = .ok (.iload_n 1, 1) := by decide +kernel
theorem dX3_append_18 : decode cX3_append 18 = .ok (.iastore, 1) := by decide +kernel
theorem dX3_append_19 : decode cX3_append 19 = .ok (.aload_n 0, 1) := by decide +kernel
theorem dX3_append_20 : decode cX3_append 20 = .ok (.dup, 1) := by decide +kernel
theorem dX3_append_21 : decode cX3_append 21 = .ok (.getfield 15, 3) := by decide +kernel
theorem dX3_append_24 : decode cX3_append 24 = .ok (.iconst 1, 1) := by decide +kernel
theorem dX3_append_25 : decode cX3_append 25 = .ok (.iadd, 1) := by decide +kernel
theorem dX3_append_26 : decode cX3_append 26 = .ok (.putfield 15, 3) := by decide +kernel
theorem dX3_append_29 : decode cX3_append 29 = .ok (.return_, 1) := by decide +kernel
theorem dX3_readHabit_0 : decode cX3_readHabit 0 = .ok (.aload_n 0, 1) := by decide +kernel
theorem dX3_readHabit_1 : decode cX3_readHabit 1 = .ok (.iconst 0, 1) := by decide +kernel
theorem dX3_readHabit_2 : decode cX3_readHabit 2 = .ok (.putfield 19, 3) := by decide +kernel
theorem dX3_readHabit_5 : decode cX3_readHabit 5 = .ok (.aload_n 0, 1) := by decide +kernel
theorem dX3_readHabit_6 : decode cX3_readHabit 6 = .ok (.iconst 0, 1) := by decide +kernel
theorem dX3_readHabit_7 : decode cX3_readHabit 7 = .ok (.putfield 22, 3) := by decide +kernel
theorem dX3_readHabit_10 : decode cX3_readHabit 10 = .ok (.aload_n 0, 1) := by decide +kernel
theorem dX3_readHabit_11 : decode cX3_readHabit 11 = .ok (.iconst 0, 1) := by decide +kernel
theorem dX3_readHabit_12 : decode cX3_readHabit 12 = .ok (.putfield 25, 3) := by decide +kernel
theorem dX3_readHabit_15 : decode cX3_readHabit 15 = .ok (.aload_n 0, 1) := by decide +kernel
theorem dX3_readHabit_16 : decode cX3_readHabit 16 = .ok (.iconst 0, 1) := by decide +kernel
theorem dX3_readHabit_17 : decode cX3_readHabit 17 = .ok (.putfield 28, 3) := by decide +kernel
theorem dX3_readHabit_20 : decode cX3_readHabit 20 = .ok (.iconst 0, 1) := by decide +kernel
theorem dX3_readHabit_21 : decode cX3_readHabit 21 = .ok (.istore_n 1, 1) := by decide +kernel
theorem dX3_readHabit_22 : decode cX3_readHabit 22 = .ok (.iload_n 1, 1) := by decide +kernel
theorem dX3_readHabit_23 : decode cX3_readHabit 23 = .ok (.bipush 6, 2) := by decide +kernel
theorem dX3_readHabit_25 : decode cX3_readHabit 25 = .ok (.if_icmp .ge 87, 3) := by decide +kernel
theorem dX3_readHabit_28 : decode cX3_readHabit 28 = .ok (.aload_n 0, 1) := by decide +kernel
theorem dX3_readHabit_29 : decode cX3_readHabit 29 = .ok (.invokevirtual 61, 3) := by decide +kernel
theorem dX3_readHabit_32 : decode cX3_readHabit 32 = .ok (.istore_n 2, 1) := by decide +kernel
theorem dX3_readHabit_33 : decode cX3_readHabit 33 = .ok (.aload_n 0, 1) := by decide +kernel
theorem dX3_readHabit_34 : decode cX3_readHabit 34 = .ok (.invokevirtual 61, 3) := by decide +kernel
theorem dX3_readHabit_37 : decode cX3_readHabit 37 = .ok (.istore_n 3, 1) := by decide +kernel
theorem dX3_readHabit_38 : decode cX3_readHabit 38 = .ok (.aload_n 0, 1) := by decide +kernel
theorem dX3_readHabit_39 : decode cX3_readHabit 39 = .ok (.iload_n 2, 1) := by decide +kernel
theorem dX3_readHabit_40 : decode cX3_readHabit 40 = .ok (.iload_n 3, 1) := by decide +kernel
theorem dX3_readHabit_41 : decode cX3_readHabit 41 = .ok (.iconst 0, 1) := by decide +kernel
theorem dX3_readHabit_42 : decode cX3_readHabit 42 = .ok (.invokevirtual 65, 3) := by decide +kernel
theorem dX3_readHabit_45 : decode cX3_readHabit 45 = .ok (.ifCond .eq 19, 3) := by decide +kernel
theorem dX3_readHabit_48 : decode cX3_readHabit 48 = .ok (.aload_n 0, 1) := by decide +kernel
theorem dX3_readHabit_49 : decode cX3_readHabit 49 = .ok (.bipush 58, 2) := by decide +kernel
theorem dX3_readHabit_51 : decode cX3_readHabit 51 = .ok (.invokevirtual 69, 3) := by decide +kernel
theorem dX3_readHabit_54 : decode cX3_readHabit 54 = .ok (.ifCond .eq 10, 3) := by decide +kernel
theorem dX3_readHabit_57 : decode cX3_readHabit 57 = .ok (.aload_n 0, 1) := by decide +kernel
theorem dX3_readHabit_58 : decode cX3_readHabit 58 = .ok (.invokevirtual 73, 3) := by decide +kernel
theorem dX3_readHabit_61 : decode cX3_readHabit 61 = .ok (.ifCond .ne 5, 3) := by decide +kernel
theorem dX3_readHabit_64 : decode cX3_readHabit 64 = .ok (.iconst 0, 1) := by decide +kernel
theorem dX3_readHabit_65 : decode cX3_readHabit 65 = .ok (.ireturn, 1) := by decide +kernel
theorem dX3_readHabit_66 : decode cX3_readHabit 66 = .ok (.aload_n 0, 1) := by decide +kernel
theorem dX3_readHabit_67 : decode cX3_readHabit 67 = .ok (.iload_n 2, 1) := by decide +kernel
theorem dX3_readHabit_68 : decode cX3_readHabit 68 = .ok (.iload_n 3, 1) := by decide +kernel
theorem dX3_readHabit_69 : decode cX3_readHabit 69 = .ok (.invokevirtual 77, 3) := by decide +kernel
theorem dX3_readHabit_72 : decode cX3_readHabit 72 = .ok (.aload_n 0, 1) := by decide +kernel
theorem dX3_readHabit_73 : decode cX3_readHabit 73 = .ok (.invokevirtual 81, 3) := by decide +kernel
theorem dX3_readHabit_76 : decode cX3_readHabit 76 = .ok (.iconst (-1), 1) := by decide +kernel
theorem dX3_readHabit_77 : decode cX3_readHabit 77 = .ok (.if_icmp .ne 9, 3) := by decide +kernel
theorem dX3_readHabit_80 : decode cX3_readHabit 80 = .ok (.aload_n 0, 1) := by decide +kernel
theorem dX3_readHabit_81 : decode cX3_readHabit 81 = .ok (.invokevirtual 84, 3) := by decide +kernel
theorem dX3_readHabit_84 : decode cX3_readHabit 84 = .ok (.iconst 1, 1) := by decide +kernel
theorem dX3_readHabit_85 : decode cX3_readHabit 85 = .ok (.ireturn, 1) := by decide +kernel
theorem dX3_readHabit_86 : decode cX3_readHabit 86 = .ok (.aload_n 0, 1) := by decide +kernel
theorem dX3_readHabit_87 : decode cX3_readHabit 87 = .ok (.getfield 25, 3) := by decide +kernel
theorem dX3_readHabit_90 : decode cX3_readHabit 90 = .ok (.bipush 6, 2) := by decide +kernel
theorem dX3_readHabit_92 : decode cX3_readHabit 92 = .ok (.if_icmp .eq 12, 3) := by decide +kernel
theorem dX3_readHabit_95 : decode cX3_readHabit 95 = .ok (.aload_n 0, 1) := by decide +kernel
theorem dX3_readHabit_96 : decode cX3_readHabit 96 = .ok (.bipush 59, 2) := by decide +kernel
theorem dX3_readHabit_98 : decode cX3_readHabit 98 = .ok (.invokevirtual 69, 3) := by decide +kernel
theorem dX3_readHabit_101 : decode cX3_readHabit 101 = .ok (.ifCond .ne 5, 3) := by decide +kernel
theorem dX3_readHabit_104 : decode cX3_readHabit 104 = .ok (.iconst 0, 1) := by decide +kernel
theorem dX3_readHabit_105 : decode cX3_readHabit 105 = .ok (.ireturn, 1) := by decide +kernel
theorem dX3_readHabit_106 : decode cX3_readHabit 106 = .ok (.iinc 1 1, 3) := by decide +kernel
theorem dX3_readHabit_109 : decode cX3_readHabit 109 = .ok (.goto (-87), 3) := by decide +kernel
theorem dX3_readHabit_112 : decode cX3_readHabit 112 = .ok (.iconst 0, 1) := by decide +kernel
theorem dX3_readHabit_113 : decode cX3_readHabit 113 = .ok (.ireturn, 1) := by decide +kernel
theorem dX3_endClause_0 : decode cX3_endClause 0 = .ok (.aload_n 0, 1) := by decide +kernel
theorem dX3_endClause_1 : decode cX3_endClause 1 = .ok (.iload_n 1, 1) := by decide +kernel
theorem dX3_endClause_2 : decode cX3_endClause 2 = .ok (.aload_n 0, 1) := by decide +kernel
theorem dX3_endClause_3 : decode cX3_endClause 3 = .ok (.getfield 25, 3) := by decide +kernel
theorem dX3_endClause_6 : decode cX3_endClause 6 = .ok (.iconst (-1), 1) := by decide +kernel
theorem dX3_endClause_7 : decode cX3_endClause 7 = .ok (.ixor, 1) := by decide +kernel
theorem dX3_endClause_8 : decode cX3_endClause 8 = .ok (.invokevirtual 87, 3) := by decide +kernel
theorem dX3_endClause_11 : decode cX3_endClause 11 = .ok (.aload_n 0, 1) := by decide +kernel
theorem dX3_endClause_12 : decode cX3_endClause 12 = .ok (.iload_n 2, 1) := by decide +kernel
theorem dX3_endClause_13 : decode cX3_endClause 13 = .ok (.aload_n 0, 1) := by decide +kernel
theorem dX3_endClause_14 : decode cX3_endClause 14 = .ok (.getfield 22, 3) := by decide +kernel
theorem dX3_endClause_17 : decode cX3_endClause 17 = .ok (.invokevirtual 87, 3) := by decide +kernel
theorem dX3_endClause_20 : decode cX3_endClause 20 = .ok (.aload_n 0, 1) := by decide +kernel
theorem dX3_endClause_21 : decode cX3_endClause 21 = .ok (.dup, 1) := by decide +kernel
theorem dX3_endClause_22 : decode cX3_endClause 22 = .ok (.getfield 25, 3) := by decide +kernel
theorem dX3_endClause_25 : decode cX3_endClause 25 = .ok (.iconst 1, 1) := by decide +kernel
theorem dX3_endClause_26 : decode cX3_endClause 26 = .ok (.iadd, 1) := by decide +kernel
theorem dX3_endClause_27 : decode cX3_endClause 27 = .ok (.putfield 25, 3) := by decide +kernel
theorem dX3_endClause_30 : decode cX3_endClause 30 = .ok (.return_, 1) := by decide +kernel
theorem dX3_readAct_0 : decode cX3_readAct 0 = .ok (.aload_n 0, 1) := by decide +kernel
theorem dX3_readAct_1 : decode cX3_readAct 1 = .ok (.invokevirtual 81, 3) := by decide +kernel
theorem dX3_readAct_4 : decode cX3_readAct 4 = .ok (.istore_n 1, 1) := by decide +kernel
theorem dX3_readAct_5 : decode cX3_readAct 5 = .ok (.iload_n 1, 1) := by decide +kernel
theorem dX3_readAct_6 : decode cX3_readAct 6 = .ok (.bipush 43, 2) := by decide +kernel
theorem dX3_readAct_8 : decode cX3_readAct 8 = .ok (.if_icmp .eq 17, 3) := by decide +kernel
theorem dX3_readAct_11 : decode cX3_readAct 11 = .ok (.iload_n 1, 1) := by decide +kernel
theorem dX3_readAct_12 : decode cX3_readAct 12 = .ok (.bipush 45, 2) := by decide +kernel
theorem dX3_readAct_14 : decode cX3_readAct 14 = .ok (.if_icmp .eq 11, 3) := by decide +kernel
theorem dX3_readAct_17 : decode cX3_readAct 17 = .ok (.iload_n 1, 1) := by decide +kernel
theorem dX3_readAct_18 : decode cX3_readAct 18 = .ok (.bipush 61, 2) := by decide +kernel
theorem dX3_readAct_20 : decode cX3_readAct 20 = .ok (.if_icmp .eq 5, 3) := by decide +kernel
theorem dX3_readAct_23 : decode cX3_readAct 23 = .ok (.iconst 0, 1) := by decide +kernel
theorem dX3_readAct_24 : decode cX3_readAct 24 = .ok (.ireturn, 1) := by decide +kernel
theorem dX3_readAct_25 : decode cX3_readAct 25 = .ok (.aload_n 0, 1) := by decide +kernel
theorem dX3_readAct_26 : decode cX3_readAct 26 = .ok (.dup, 1) := by decide +kernel
theorem dX3_readAct_27 : decode cX3_readAct 27 = .ok (.getfield 19, 3) := by decide +kernel
theorem dX3_readAct_30 : decode cX3_readAct 30 = .ok (.iconst 1, 1) := by decide +kernel
theorem dX3_readAct_31 : decode cX3_readAct 31 = .ok (.iadd, 1) := by decide +kernel
theorem dX3_readAct_32 : decode cX3_readAct 32 = .ok (.putfield 19, 3) := by decide +kernel
theorem dX3_readAct_35 : decode cX3_readAct 35 = .ok (.aload_n 0, 1) := by decide +kernel
theorem dX3_readAct_36 : decode cX3_readAct 36 = .ok (.invokevirtual 81, 3) := by decide +kernel
theorem dX3_readAct_39 : decode cX3_readAct 39 = .ok (.invokestatic 90, 3) := by decide +kernel
theorem dX3_readAct_42 : decode cX3_readAct 42 = .ok (.ifCond .ne 5, 3) := by decide +kernel
theorem dX3_readAct_45 : decode cX3_readAct 45 = .ok (.iconst 0, 1) := by decide +kernel
theorem dX3_readAct_46 : decode cX3_readAct 46 = .ok (.ireturn, 1) := by decide +kernel
theorem dX3_readAct_47 : decode cX3_readAct 47 = .ok (.aload_n 0, 1) := by decide +kernel
theorem dX3_readAct_48 : decode cX3_readAct 48 = .ok (.getfield 46, 3) := by decide +kernel
theorem dX3_readAct_51 : decode cX3_readAct 51 = .ok (.aload_n 0, 1) := by decide +kernel
theorem dX3_readAct_52 : decode cX3_readAct 52 = .ok (.getfield 25, 3) := by decide +kernel
theorem dX3_readAct_55 : decode cX3_readAct 55 = .ok (.iload_n 1, 1) := by decide +kernel
theorem dX3_readAct_56 : decode cX3_readAct 56 = .ok (.iastore, 1) := by decide +kernel
theorem dX3_readAct_57 : decode cX3_readAct 57 = .ok (.aload_n 0, 1) := by decide +kernel
theorem dX3_readAct_58 : decode cX3_readAct 58 = .ok (.getfield 49, 3) := by decide +kernel
theorem dX3_readAct_61 : decode cX3_readAct 61 = .ok (.aload_n 0, 1) := by decide +kernel
theorem dX3_readAct_62 : decode cX3_readAct 62 = .ok (.getfield 25, 3) := by decide +kernel
theorem dX3_readAct_65 : decode cX3_readAct 65 = .ok (.aload_n 0, 1) := by decide +kernel
theorem dX3_readAct_66 : decode cX3_readAct 66 = .ok (.getfield 9, 3) := by decide +kernel
theorem dX3_readAct_69 : decode cX3_readAct 69 = .ok (.aload_n 0, 1) := by decide +kernel
theorem dX3_readAct_70 : decode cX3_readAct 70 = .ok (.getfield 19, 3) := by decide +kernel
theorem dX3_readAct_73 : decode cX3_readAct 73 = .ok (.iaload, 1) := by decide +kernel
theorem dX3_readAct_74 : decode cX3_readAct 74 = .ok (.bipush 48, 2) := by decide +kernel
theorem dX3_readAct_76 : decode cX3_readAct 76 = .ok (.isub, 1) := by decide +kernel
theorem dX3_readAct_77 : decode cX3_readAct 77 = .ok (.iastore, 1) := by decide +kernel
theorem dX3_readAct_78 : decode cX3_readAct 78 = .ok (.aload_n 0, 1) := by decide +kernel
theorem dX3_readAct_79 : decode cX3_readAct 79 = .ok (.dup, 1) := by decide +kernel
theorem dX3_readAct_80 : decode cX3_readAct 80 = .ok (.getfield 19, 3) := by decide +kernel
theorem dX3_readAct_83 : decode cX3_readAct 83 = .ok (.iconst 1, 1) := by decide +kernel
theorem dX3_readAct_84 : decode cX3_readAct 84 = .ok (.iadd, 1) := by decide +kernel
theorem dX3_readAct_85 : decode cX3_readAct 85 = .ok (.putfield 19, 3) := by decide +kernel
theorem dX3_readAct_88 : decode cX3_readAct 88 = .ok (.aload_n 0, 1) := by decide +kernel
theorem dX3_readAct_89 : decode cX3_readAct 89 = .ok (.getfield 52, 3) := by decide +kernel
theorem dX3_readAct_92 : decode cX3_readAct 92 = .ok (.aload_n 0, 1) := by decide +kernel
theorem dX3_readAct_93 : decode cX3_readAct 93 = .ok (.getfield 25, 3) := by decide +kernel
theorem dX3_readAct_96 : decode cX3_readAct 96 = .ok (.aload_n 0, 1) := by decide +kernel
theorem dX3_readAct_97 : decode cX3_readAct 97 = .ok (.bipush 99, 2) := by decide +kernel
theorem dX3_readAct_99 : decode cX3_readAct 99 = .ok (.invokevirtual 69, 3) := by decide +kernel
theorem dX3_readAct_102 : decode cX3_readAct 102 = .ok (.ifCond .eq 7, 3) := by decide +kernel
theorem dX3_readAct_105 : decode cX3_readAct 105 = .ok (.iconst 1, 1) := by decide +kernel
theorem dX3_readAct_106 : decode cX3_readAct 106 = .ok (.goto 4, 3) := by decide +kernel
theorem dX3_readAct_109 : decode cX3_readAct 109 = .ok (.iconst 0, 1) := by decide +kernel
theorem dX3_readAct_110 : decode cX3_readAct 110 = .ok (.iastore, 1) := by decide +kernel
theorem dX3_readAct_111 : decode cX3_readAct 111 = .ok (.iconst 1, 1) := by decide +kernel
theorem dX3_readAct_112 : decode cX3_readAct 112 = .ok (.ireturn, 1) := by decide +kernel
theorem dX3_readTest_0 : decode cX3_readTest 0 = .ok (.iconst 0, 1) := by decide +kernel
theorem dX3_readTest_1 : decode cX3_readTest 1 = .ok (.istore 4, 2) := by decide +kernel
theorem dX3_readTest_3 : decode cX3_readTest 3 = .ok (.iload 4, 2) := by decide +kernel
theorem dX3_readTest_5 : decode cX3_readTest 5 = .ok (.bipush 100, 2) := by decide +kernel
theorem dX3_readTest_7 : decode cX3_readTest 7 = .ok (.if_icmp .ge 56, 3) := by decide +kernel
theorem dX3_readTest_10 : decode cX3_readTest 10 = .ok (.aload_n 0, 1) := by decide +kernel
theorem dX3_readTest_11 : decode cX3_readTest 11 = .ok (.invokevirtual 61, 3) := by decide +kernel
theorem dX3_readTest_14 : decode cX3_readTest 14 = .ok (.istore 5, 2) := by decide +kernel
theorem dX3_readTest_16 : decode cX3_readTest 16 = .ok (.aload_n 0, 1) := by decide +kernel
theorem dX3_readTest_17 : decode cX3_readTest 17 = .ok (.iload_n 1, 1) := by decide +kernel
theorem dX3_readTest_18 : decode cX3_readTest 18 = .ok (.iload 5, 2) := by decide +kernel
theorem dX3_readTest_20 : decode cX3_readTest 20 = .ok (.iload_n 3, 1) := by decide +kernel
theorem dX3_readTest_21 : decode cX3_readTest 21 = .ok (.invokevirtual 93, 3) := by decide +kernel
theorem dX3_readTest_24 : decode cX3_readTest 24 = .ok (.ifCond .ne 5, 3) := by decide +kernel
theorem dX3_readTest_27 : decode cX3_readTest 27 = .ok (.iconst 0, 1) := by decide +kernel
theorem dX3_readTest_28 : decode cX3_readTest 28 = .ok (.ireturn, 1) := by decide +kernel
theorem dX3_readTest_29 : decode cX3_readTest 29 = .ok (.aload_n 0, 1) := by decide +kernel
theorem dX3_readTest_30 : decode cX3_readTest 30 = .ok (.bipush 124, 2) := by decide +kernel
theorem dX3_readTest_32 : decode cX3_readTest 32 = .ok (.invokevirtual 69, 3) := by decide +kernel
theorem dX3_readTest_35 : decode cX3_readTest 35 = .ok (.ifCond .ne 12, 3) := by decide +kernel
theorem dX3_readTest_38 : decode cX3_readTest 38 = .ok (.aload_n 0, 1) := by decide +kernel
theorem dX3_readTest_39 : decode cX3_readTest 39 = .ok (.iload 5, 2) := by decide +kernel
theorem dX3_readTest_41 : decode cX3_readTest 41 = .ok (.iload_n 2, 1) := by decide +kernel
theorem dX3_readTest_42 : decode cX3_readTest 42 = .ok (.invokevirtual 96, 3) := by decide +kernel
theorem dX3_readTest_45 : decode cX3_readTest 45 = .ok (.iconst 1, 1) := by decide +kernel
theorem dX3_readTest_46 : decode cX3_readTest 46 = .ok (.ireturn, 1) := by decide +kernel
theorem dX3_readTest_47 : decode cX3_readTest 47 = .ok (.aload_n 0, 1) := by decide +kernel
theorem dX3_readTest_48 : decode cX3_readTest 48 = .ok (.iload 5, 2) := by decide +kernel
theorem dX3_readTest_50 : decode cX3_readTest 50 = .ok (.aload_n 0, 1) := by decide +kernel
theorem dX3_readTest_51 : decode cX3_readTest 51 = .ok (.getfield 22, 3) := by decide +kernel
theorem dX3_readTest_54 : decode cX3_readTest 54 = .ok (.invokevirtual 87, 3) := by decide +kernel
theorem dX3_readTest_57 : decode cX3_readTest 57 = .ok (.iinc 4 1, 3) := by decide +kernel
theorem dX3_readTest_60 : decode cX3_readTest 60 = .ok (.goto (-57), 3) := by decide +kernel
theorem dX3_readTest_63 : decode cX3_readTest 63 = .ok (.iconst 0, 1) := by decide +kernel
theorem dX3_readTest_64 : decode cX3_readTest 64 = .ok (.ireturn, 1) := by decide +kernel
theorem dX3_readCase_0 : decode cX3_readCase 0 = .ok (.iconst 0, 1) := by decide +kernel
theorem dX3_readCase_1 : decode cX3_readCase 1 = .ok (.istore 4, 2) := by decide +kernel
theorem dX3_readCase_3 : decode cX3_readCase 3 = .ok (.iload 4, 2) := by decide +kernel
theorem dX3_readCase_5 : decode cX3_readCase 5 = .ok (.bipush 100, 2) := by decide +kernel
theorem dX3_readCase_7 : decode cX3_readCase 7 = .ok (.if_icmp .ge 80, 3) := by decide +kernel
theorem dX3_readCase_10 : decode cX3_readCase 10 = .ok (.aload_n 0, 1) := by decide +kernel
theorem dX3_readCase_11 : decode cX3_readCase 11 = .ok (.invokevirtual 61, 3) := by decide +kernel
theorem dX3_readCase_14 : decode cX3_readCase 14 = .ok (.istore 5, 2) := by decide +kernel
theorem dX3_readCase_16 : decode cX3_readCase 16 = .ok (.aload_n 0, 1) := by decide +kernel
theorem dX3_readCase_17 : decode cX3_readCase 17 = .ok (.bipush 33, 2) := by decide +kernel
theorem dX3_readCase_19 : decode cX3_readCase 19 = .ok (.invokevirtual 69, 3) := by decide +kernel
theorem dX3_readCase_22 : decode cX3_readCase 22 = .ok (.ifCond .eq 14, 3) := by decide +kernel
theorem dX3_readCase_25 : decode cX3_readCase 25 = .ok (.aload_n 0, 1) := by decide +kernel
theorem dX3_readCase_26 : decode cX3_readCase 26 = .ok (.iload_n 2, 1) := by decide +kernel
theorem dX3_readCase_27 : decode cX3_readCase 27 = .ok (.iload 5, 2) := by decide +kernel
theorem dX3_readCase_29 : decode cX3_readCase 29 = .ok (.iload_n 3, 1) := by decide +kernel
theorem dX3_readCase_30 : decode cX3_readCase 30 = .ok (.invokevirtual 99, 3) := by decide +kernel
theorem dX3_readCase_33 : decode cX3_readCase 33 = .ok (.goto 11, 3) := by decide +kernel
theorem dX3_readCase_36 : decode cX3_readCase 36 = .ok (.aload_n 0, 1) := by decide +kernel
theorem dX3_readCase_37 : decode cX3_readCase 37 = .ok (.iload 5, 2) := by decide +kernel
theorem dX3_readCase_39 : decode cX3_readCase 39 = .ok (.iload_n 2, 1) := by decide +kernel
theorem dX3_readCase_40 : decode cX3_readCase 40 = .ok (.iload_n 3, 1) := by decide +kernel
theorem dX3_readCase_41 : decode cX3_readCase 41 = .ok (.invokevirtual 99, 3) := by decide +kernel
theorem dX3_readCase_44 : decode cX3_readCase 44 = .ok (.istore 6, 2) := by decide +kernel
theorem dX3_readCase_46 : decode cX3_readCase 46 = .ok (.iload 6, 2) := by decide +kernel
theorem dX3_readCase_48 : decode cX3_readCase 48 = .ok (.ifCond .ne 5, 3) := by decide +kernel
theorem dX3_readCase_51 : decode cX3_readCase 51 = .ok (.iconst 0, 1) := by decide +kernel
theorem dX3_readCase_52 : decode cX3_readCase 52 = .ok (.ireturn, 1) := by decide +kernel
theorem dX3_readCase_53 : decode cX3_readCase 53 = .ok (.aload_n 0, 1) := by decide +kernel
theorem dX3_readCase_54 : decode cX3_readCase 54 = .ok (.bipush 38, 2) := by decide +kernel
theorem dX3_readCase_56 : decode cX3_readCase 56 = .ok (.invokevirtual 69, 3) := by decide +kernel
theorem dX3_readCase_59 : decode cX3_readCase 59 = .ok (.ifCond .ne 12, 3) := by decide +kernel
theorem dX3_readCase_62 : decode cX3_readCase 62 = .ok (.aload_n 0, 1) := by decide +kernel
theorem dX3_readCase_63 : decode cX3_readCase 63 = .ok (.iload 5, 2) := by decide +kernel
theorem dX3_readCase_65 : decode cX3_readCase 65 = .ok (.iload_n 1, 1) := by decide +kernel
theorem dX3_readCase_66 : decode cX3_readCase 66 = .ok (.invokevirtual 96, 3) := by decide +kernel
theorem dX3_readCase_69 : decode cX3_readCase 69 = .ok (.iconst 1, 1) := by decide +kernel
theorem dX3_readCase_70 : decode cX3_readCase 70 = .ok (.ireturn, 1) := by decide +kernel
theorem dX3_readCase_71 : decode cX3_readCase 71 = .ok (.aload_n 0, 1) := by decide +kernel
theorem dX3_readCase_72 : decode cX3_readCase 72 = .ok (.iload 5, 2) := by decide +kernel
theorem dX3_readCase_74 : decode cX3_readCase 74 = .ok (.aload_n 0, 1) := by decide +kernel
theorem dX3_readCase_75 : decode cX3_readCase 75 = .ok (.getfield 22, 3) := by decide +kernel
theorem dX3_readCase_78 : decode cX3_readCase 78 = .ok (.invokevirtual 87, 3) := by decide +kernel
theorem dX3_readCase_81 : decode cX3_readCase 81 = .ok (.iinc 4 1, 3) := by decide +kernel
theorem dX3_readCase_84 : decode cX3_readCase 84 = .ok (.goto (-81), 3) := by decide +kernel
theorem dX3_readCase_87 : decode cX3_readCase 87 = .ok (.iconst 0, 1) := by decide +kernel
theorem dX3_readCase_88 : decode cX3_readCase 88 = .ok (.ireturn, 1) := by decide +kernel
theorem dX3_readBare_0 : decode cX3_readBare 0 = .ok (.aload_n 0, 1) := by decide +kernel
theorem dX3_readBare_1 : decode cX3_readBare 1 = .ok (.invokevirtual 81, 3) := by decide +kernel
theorem dX3_readBare_4 : decode cX3_readBare 4 = .ok (.istore 4, 2) := by decide +kernel
theorem dX3_readBare_6 : decode cX3_readBare 6 = .ok (.iload 4, 2) := by decide +kernel
theorem dX3_readBare_8 : decode cX3_readBare 8 = .ok (.bipush 40, 2) := by decide +kernel
theorem dX3_readBare_10 : decode cX3_readBare 10 = .ok (.if_icmp .ne 47, 3) := by decide +kernel
theorem dX3_readBare_13 : decode cX3_readBare 13 = .ok (.iload_n 3, 1) := by decide +kernel
theorem dX3_readBare_14 : decode cX3_readBare 14 = .ok (.iconst 4, 1) := by decide +kernel
theorem dX3_readBare_15 : decode cX3_readBare 15 = .ok (.if_icmp .lt 5, 3) := by decide +kernel
theorem dX3_readBare_18 : decode cX3_readBare 18 = .ok (.iconst 0, 1) := by decide +kernel
theorem dX3_readBare_19 : decode cX3_readBare 19 = .ok (.ireturn, 1) := by decide +kernel
theorem dX3_readBare_20 : decode cX3_readBare 20 = .ok (.aload_n 0, 1) := by decide +kernel
theorem dX3_readBare_21 : decode cX3_readBare 21 = .ok (.dup, 1) := by decide +kernel
theorem dX3_readBare_22 : decode cX3_readBare 22 = .ok (.getfield 19, 3) := by decide +kernel
theorem dX3_readBare_25 : decode cX3_readBare 25 = .ok (.iconst 1, 1) := by decide +kernel
theorem dX3_readBare_26 : decode cX3_readBare 26 = .ok (.iadd, 1) := by decide +kernel
theorem dX3_readBare_27 : decode cX3_readBare 27 = .ok (.putfield 19, 3) := by decide +kernel
theorem dX3_readBare_30 : decode cX3_readBare 30 = .ok (.aload_n 0, 1) := by decide +kernel
theorem dX3_readBare_31 : decode cX3_readBare 31 = .ok (.iload_n 1, 1) := by decide +kernel
theorem dX3_readBare_32 : decode cX3_readBare 32 = .ok (.iload_n 2, 1) := by decide +kernel
theorem dX3_readBare_33 : decode cX3_readBare 33 = .ok (.iload_n 3, 1) := by decide +kernel
theorem dX3_readBare_34 : decode cX3_readBare 34 = .ok (.iconst 1, 1) := by decide +kernel
theorem dX3_readBare_35 : decode cX3_readBare 35 = .ok (.iadd, 1) := by decide +kernel
theorem dX3_readBare_36 : decode cX3_readBare 36 = .ok (.invokevirtual 65, 3) := by decide +kernel
theorem dX3_readBare_39 : decode cX3_readBare 39 = .ok (.ifCond .eq 16, 3) := by decide +kernel
theorem dX3_readBare_42 : decode cX3_readBare 42 = .ok (.aload_n 0, 1) := by decide +kernel
theorem dX3_readBare_43 : decode cX3_readBare 43 = .ok (.bipush 41, 2) := by decide +kernel
theorem dX3_readBare_45 : decode cX3_readBare 45 = .ok (.invokevirtual 69, 3) := by decide +kernel
theorem dX3_readBare_48 : decode cX3_readBare 48 = .ok (.ifCond .eq 7, 3) := by decide +kernel
theorem dX3_readBare_51 : decode cX3_readBare 51 = .ok (.iconst 1, 1) := by decide +kernel
theorem dX3_readBare_52 : decode cX3_readBare 52 = .ok (.goto 4, 3) := by decide +kernel
theorem dX3_readBare_55 : decode cX3_readBare 55 = .ok (.iconst 0, 1) := by decide +kernel
theorem dX3_readBare_56 : decode cX3_readBare 56 = .ok (.ireturn, 1) := by decide +kernel
theorem dX3_readBare_57 : decode cX3_readBare 57 = .ok (.iload 4, 2) := by decide +kernel
theorem dX3_readBare_59 : decode cX3_readBare 59 = .ok (.bipush 42, 2) := by decide +kernel
theorem dX3_readBare_61 : decode cX3_readBare 61 = .ok (.if_icmp .ne 25, 3) := by decide +kernel
theorem dX3_readBare_64 : decode cX3_readBare 64 = .ok (.aload_n 0, 1) := by decide +kernel
theorem dX3_readBare_65 : decode cX3_readBare 65 = .ok (.dup, 1) := by decide +kernel
theorem dX3_readBare_66 : decode cX3_readBare 66 = .ok (.getfield 19, 3) := by decide +kernel
theorem dX3_readBare_69 : decode cX3_readBare 69 = .ok (.iconst 1, 1) := by decide +kernel
theorem dX3_readBare_70 : decode cX3_readBare 70 = .ok (.iadd, 1) := by decide +kernel
theorem dX3_readBare_71 : decode cX3_readBare 71 = .ok (.putfield 19, 3) := by decide +kernel
theorem dX3_readBare_74 : decode cX3_readBare 74 = .ok (.aload_n 0, 1) := by decide +kernel
theorem dX3_readBare_75 : decode cX3_readBare 75 = .ok (.iload 4, 2) := by decide +kernel
theorem dX3_readBare_77 : decode cX3_readBare 77 = .ok (.bipush 42, 2) := by decide +kernel
theorem dX3_readBare_79 : decode cX3_readBare 79 = .ok (.iconst 0, 1) := by decide +kernel
theorem dX3_readBare_80 : decode cX3_readBare 80 = .ok (.invokevirtual 102, 3) := by decide +kernel
theorem dX3_readBare_83 : decode cX3_readBare 83 = .ok (.goto 12, 3) := by decide +kernel
theorem dX3_readBare_86 : decode cX3_readBare 86 = .ok (.aload_n 0, 1) := by decide +kernel
theorem dX3_readBare_87 : decode cX3_readBare 87 = .ok (.invokevirtual 106, 3) := by decide +kernel
theorem dX3_readBare_90 : decode cX3_readBare 90 = .ok (.ifCond .ne 5, 3) := by decide +kernel
theorem dX3_readBare_93 : decode cX3_readBare 93 = .ok (.iconst 0, 1) := by decide +kernel
theorem dX3_readBare_94 : decode cX3_readBare 94 = .ok (.ireturn, 1) := by decide +kernel
theorem dX3_readBare_95 : decode cX3_readBare 95 = .ok (.aload_n 0, 1) := by decide +kernel
theorem dX3_readBare_96 : decode cX3_readBare 96 = .ok (.getfield 40, 3) := by decide +kernel
theorem dX3_readBare_99 : decode cX3_readBare 99 = .ok (.aload_n 0, 1) := by decide +kernel
theorem dX3_readBare_100 : decode cX3_readBare 100 = .ok (.getfield 22, 3) := by decide +kernel
theorem dX3_readBare_103 : decode cX3_readBare 103 = .ok (.iconst 1, 1) := by decide +kernel
theorem dX3_readBare_104 : decode cX3_readBare 104 = .ok (.isub, 1) := by decide +kernel
theorem dX3_readBare_105 : decode cX3_readBare 105 = .ok (.iload_n 1, 1) := by decide +kernel
theorem dX3_readBare_106 : decode cX3_readBare 106 = .ok (.iastore, 1) := by decide +kernel
theorem dX3_readBare_107 : decode cX3_readBare 107 = .ok (.aload_n 0, 1) := by decide +kernel
theorem dX3_readBare_108 : decode cX3_readBare 108 = .ok (.getfield 43, 3) := by decide +kernel
theorem dX3_readBare_111 : decode cX3_readBare 111 = .ok (.aload_n 0, 1) := by decide +kernel
theorem dX3_readBare_112 : decode cX3_readBare 112 = .ok (.getfield 22, 3) := by decide +kernel
theorem dX3_readBare_115 : decode cX3_readBare 115 = .ok (.iconst 1, 1) := by decide +kernel
theorem dX3_readBare_116 : decode cX3_readBare 116 = .ok (.isub, 1) := by decide +kernel
theorem dX3_readBare_117 : decode cX3_readBare 117 = .ok (.iload_n 2, 1) := by decide +kernel
theorem dX3_readBare_118 : decode cX3_readBare 118 = .ok (.iastore, 1) := by decide +kernel
theorem dX3_readBare_119 : decode cX3_readBare 119 = .ok (.iconst 1, 1) := by decide +kernel
theorem dX3_readBare_120 : decode cX3_readBare 120 = .ok (.ireturn, 1) := by decide +kernel
theorem dX3_readComparison_0 : decode cX3_readComparison 0 = .ok (.aload_n 0, 1) := by decide +kernel
theorem dX3_readComparison_1 : decode cX3_readComparison 1 = .ok (.invokevirtual 81, 3) := by decide +kernel
theorem dX3_readComparison_4 : decode cX3_readComparison 4 = .ok (.istore_n 1, 1) := by decide +kernel
theorem dX3_readComparison_5 : decode cX3_readComparison 5 = .ok (.iload_n 1, 1) := by decide +kernel
theorem dX3_readComparison_6 : decode cX3_readComparison 6 = .ok (.bipush 103, 2) := by decide +kernel
theorem dX3_readComparison_8 : decode cX3_readComparison 8 = .ok (.if_icmp .eq 23, 3) := by decide +kernel
theorem dX3_readComparison_11 : decode cX3_readComparison 11 = .ok (.iload_n 1, 1) := by decide +kernel
theorem dX3_readComparison_12 : decode cX3_readComparison 12 = .ok (.bipush 100, 2) := by decide +kernel
theorem dX3_readComparison_14 : decode cX3_readComparison 14 = .ok (.if_icmp .eq 17, 3) := by decide +kernel
theorem dX3_readComparison_17 : decode cX3_readComparison 17 = .ok (.iload_n 1, 1) := by decide +kernel
theorem dX3_readComparison_18 : decode cX3_readComparison 18 = .ok (.bipush 111, 2) := by decide +kernel
theorem dX3_readComparison_20 : decode cX3_readComparison 20 = .ok (.if_icmp .eq 11, 3) := by decide +kernel
theorem dX3_readComparison_23 : decode cX3_readComparison 23 = .ok (.iload_n 1, 1) := by decide +kernel
theorem dX3_readComparison_24 : decode cX3_readComparison 24 = .ok (.bipush 118, 2) := by decide +kernel
theorem dX3_readComparison_26 : decode cX3_readComparison 26 = .ok (.if_icmp .eq 5, 3) := by decide +kernel
theorem dX3_readComparison_29 : decode cX3_readComparison 29 = .ok (.iconst 0, 1) := by decide +kernel
theorem dX3_readComparison_30 : decode cX3_readComparison 30 = .ok (.ireturn, 1) := by decide +kernel
theorem dX3_readComparison_31 : decode cX3_readComparison 31 = .ok (.aload_n 0, 1) := by decide +kernel
theorem dX3_readComparison_32 : decode cX3_readComparison 32 = .ok (.dup, 1) := by decide +kernel
theorem dX3_readComparison_33 : decode cX3_readComparison 33 = .ok (.getfield 19, 3) := by decide +kernel
theorem dX3_readComparison_36 : decode cX3_readComparison 36 = .ok (.iconst 1, 1) := by decide +kernel
theorem dX3_readComparison_37 : decode cX3_readComparison 37 = .ok (.iadd, 1) := by decide +kernel
theorem dX3_readComparison_38 : decode cX3_readComparison 38 = .ok (.putfield 19, 3) := by decide +kernel
theorem dX3_readComparison_41 : decode cX3_readComparison 41 = .ok (.aload_n 0, 1) := by decide +kernel
theorem dX3_readComparison_42 : decode cX3_readComparison 42 = .ok (.invokevirtual 81, 3) := by decide +kernel
theorem dX3_readComparison_45 : decode cX3_readComparison 45 = .ok (.istore_n 2, 1) := by decide +kernel
theorem dX3_readComparison_46 : decode cX3_readComparison 46 = .ok (.iload_n 2, 1) := by decide +kernel
theorem dX3_readComparison_47 : decode cX3_readComparison 47 = .ok (.bipush 60, 2) := by decide +kernel
theorem dX3_readComparison_49 : decode cX3_readComparison 49 = .ok (.if_icmp .eq 17, 3) := by decide +kernel
theorem dX3_readComparison_52 : decode cX3_readComparison 52 = .ok (.iload_n 2, 1) := by decide +kernel
theorem dX3_readComparison_53 : decode cX3_readComparison 53 = .ok (.bipush 62, 2) := by decide +kernel
theorem dX3_readComparison_55 : decode cX3_readComparison 55 = .ok (.if_icmp .eq 11, 3) := by decide +kernel
theorem dX3_readComparison_58 : decode cX3_readComparison 58 = .ok (.iload_n 2, 1) := by decide +kernel
theorem dX3_readComparison_59 : decode cX3_readComparison 59 = .ok (.bipush 61, 2) := by decide +kernel
theorem dX3_readComparison_61 : decode cX3_readComparison 61 = .ok (.if_icmp .eq 5, 3) := by decide +kernel
theorem dX3_readComparison_64 : decode cX3_readComparison 64 = .ok (.iconst 0, 1) := by decide +kernel
theorem dX3_readComparison_65 : decode cX3_readComparison 65 = .ok (.ireturn, 1) := by decide +kernel
theorem dX3_readComparison_66 : decode cX3_readComparison 66 = .ok (.aload_n 0, 1) := by decide +kernel
theorem dX3_readComparison_67 : decode cX3_readComparison 67 = .ok (.dup, 1) := by decide +kernel
theorem dX3_readComparison_68 : decode cX3_readComparison 68 = .ok (.getfield 19, 3) := by decide +kernel
theorem dX3_readComparison_71 : decode cX3_readComparison 71 = .ok (.iconst 1, 1) := by decide +kernel
theorem dX3_readComparison_72 : decode cX3_readComparison 72 = .ok (.iadd, 1) := by decide +kernel
theorem dX3_readComparison_73 : decode cX3_readComparison 73 = .ok (.putfield 19, 3) := by decide +kernel
theorem dX3_readComparison_76 : decode cX3_readComparison 76 = .ok (.aload_n 0, 1) := by decide +kernel
theorem dX3_readComparison_77 : decode cX3_readComparison 77 = .ok (.bipush 45, 2) := by decide +kernel
theorem dX3_readComparison_79 : decode cX3_readComparison 79 = .ok (.invokevirtual 69, 3) := by decide +kernel
theorem dX3_readComparison_82 : decode cX3_readComparison 82 = .ok (.istore_n 3, 1) := by decide +kernel
theorem dX3_readComparison_83 : decode cX3_readComparison 83 = .ok (.aload_n 0, 1) := by decide +kernel
theorem dX3_readComparison_84 : decode cX3_readComparison 84 = .ok (.invokevirtual 81, 3) := by decide +kernel
theorem dX3_readComparison_87 : decode cX3_readComparison 87 = .ok (.invokestatic 90, 3) := by decide +kernel
theorem dX3_readComparison_90 : decode cX3_readComparison 90 = .ok (.ifCond .ne 5, 3) := by decide +kernel
theorem dX3_readComparison_93 : decode cX3_readComparison 93 = .ok (.iconst 0, 1) := by decide +kernel
theorem dX3_readComparison_94 : decode cX3_readComparison 94 = .ok (.ireturn, 1) := by decide +kernel
theorem dX3_readComparison_95 : decode cX3_readComparison 95 = .ok (.aload_n 0, 1) := by decide +kernel
theorem dX3_readComparison_96 : decode cX3_readComparison 96 = .ok (.invokevirtual 109, 3) := by decide +kernel
theorem dX3_readComparison_99 : decode cX3_readComparison 99 = .ok (.istore 4, 2) := by decide +kernel
theorem dX3_readComparison_101 : decode cX3_readComparison 101 = .ok (.aload_n 0, 1) := by decide +kernel
theorem dX3_readComparison_102 : decode cX3_readComparison 102 = .ok (.iload_n 1, 1) := by decide +kernel
theorem dX3_readComparison_103 : decode cX3_readComparison 103 = .ok (.iload_n 2, 1) := by decide +kernel
theorem dX3_readComparison_104 : decode cX3_readComparison 104 = .ok (.iload_n 3, 1) := by decide +kernel
theorem dX3_readComparison_105 : decode cX3_readComparison 105 = .ok (.ifCond .eq 9, 3) := by decide +kernel
theorem dX3_readComparison_108 : decode cX3_readComparison 108 = .ok (.iload 4, 2) := by decide +kernel
theorem dX3_readComparison_110 : decode cX3_readComparison 110 = .ok (.ineg, 1) := by decide +kernel
theorem dX3_readComparison_111 : decode cX3_readComparison 111 = .ok (.goto 5, 3) := by decide +kernel
theorem dX3_readComparison_114 : decode cX3_readComparison 114 = .ok (.iload 4, 2) := by decide +kernel
theorem dX3_readComparison_116 : decode cX3_readComparison 116 = .ok (.invokevirtual 102, 3) := by decide +kernel
theorem dX3_readComparison_119 : decode cX3_readComparison 119 = .ok (.iconst 1, 1) := by decide +kernel
theorem dX3_readComparison_120 : decode cX3_readComparison 120 = .ok (.ireturn, 1) := by decide +kernel
theorem dX3_readNumber_0 : decode cX3_readNumber 0 = .ok (.aload_n 0, 1) := by decide +kernel
theorem dX3_readNumber_1 : decode cX3_readNumber 1 = .ok (.getfield 9, 3) := by decide +kernel
theorem dX3_readNumber_4 : decode cX3_readNumber 4 = .ok (.aload_n 0, 1) := by decide +kernel
theorem dX3_readNumber_5 : decode cX3_readNumber 5 = .ok (.getfield 19, 3) := by decide +kernel
theorem dX3_readNumber_8 : decode cX3_readNumber 8 = .ok (.iaload, 1) := by decide +kernel
theorem dX3_readNumber_9 : decode cX3_readNumber 9 = .ok (.bipush 48, 2) := by decide +kernel
theorem dX3_readNumber_11 : decode cX3_readNumber 11 = .ok (.isub, 1) := by decide +kernel
theorem dX3_readNumber_12 : decode cX3_readNumber 12 = .ok (.istore_n 1, 1) := by decide +kernel
theorem dX3_readNumber_13 : decode cX3_readNumber 13 = .ok (.aload_n 0, 1) := by decide +kernel
theorem dX3_readNumber_14 : decode cX3_readNumber 14 = .ok (.dup, 1) := by decide +kernel
theorem dX3_readNumber_15 : decode cX3_readNumber 15 = .ok (.getfield 19, 3) := by decide +kernel
theorem dX3_readNumber_18 : decode cX3_readNumber 18 = .ok (.iconst 1, 1) := by decide +kernel
theorem dX3_readNumber_19 : decode cX3_readNumber 19 = .ok (.iadd, 1) := by decide +kernel
theorem dX3_readNumber_20 : decode cX3_readNumber 20 = .ok (.putfield 19, 3) := by decide +kernel
theorem dX3_readNumber_23 : decode cX3_readNumber 23 = .ok (.aload_n 0, 1) := by decide +kernel
theorem dX3_readNumber_24 : decode cX3_readNumber 24 = .ok (.getfield 19, 3) := by decide +kernel
theorem dX3_readNumber_27 : decode cX3_readNumber 27 = .ok (.aload_n 0, 1) := by decide +kernel
theorem dX3_readNumber_28 : decode cX3_readNumber 28 = .ok (.getfield 15, 3) := by decide +kernel
theorem dX3_readNumber_31 : decode cX3_readNumber 31 = .ok (.if_icmp .ge 46, 3) := by decide +kernel
theorem dX3_readNumber_34 : decode cX3_readNumber 34 = .ok (.aload_n 0, 1) := by decide +kernel
theorem dX3_readNumber_35 : decode cX3_readNumber 35 = .ok (.getfield 9, 3) := by decide +kernel
theorem dX3_readNumber_38 : decode cX3_readNumber 38 = .ok (.aload_n 0, 1) := by decide +kernel
theorem dX3_readNumber_39 : decode cX3_readNumber 39 = .ok (.getfield 19, 3) := by decide +kernel
theorem dX3_readNumber_42 : decode cX3_readNumber 42 = .ok (.iaload, 1) := by decide +kernel
theorem dX3_readNumber_43 : decode cX3_readNumber 43 = .ok (.invokestatic 90, 3) := by decide +kernel
theorem dX3_readNumber_46 : decode cX3_readNumber 46 = .ok (.ifCond .eq 31, 3) := by decide +kernel
theorem dX3_readNumber_49 : decode cX3_readNumber 49 = .ok (.bipush 10, 2) := by decide +kernel
theorem dX3_readNumber_51 : decode cX3_readNumber 51 = .ok (.iload_n 1, 1) := by decide +kernel
theorem dX3_readNumber_52 : decode cX3_readNumber 52 = .ok (.imul, 1) := by decide +kernel
theorem dX3_readNumber_53 : decode cX3_readNumber 53 = .ok (.aload_n 0, 1) := by decide +kernel
theorem dX3_readNumber_54 : decode cX3_readNumber 54 = .ok (.getfield 9, 3) := by decide +kernel
theorem dX3_readNumber_57 : decode cX3_readNumber 57 = .ok (.aload_n 0, 1) := by decide +kernel
theorem dX3_readNumber_58 : decode cX3_readNumber 58 = .ok (.getfield 19, 3) := by decide +kernel
theorem dX3_readNumber_61 : decode cX3_readNumber 61 = .ok (.iaload, 1) := by decide +kernel
theorem dX3_readNumber_62 : decode cX3_readNumber 62 = .ok (.iadd, 1) := by decide +kernel
theorem dX3_readNumber_63 : decode cX3_readNumber 63 = .ok (.bipush 48, 2) := by decide +kernel
theorem dX3_readNumber_65 : decode cX3_readNumber 65 = .ok (.isub, 1) := by decide +kernel
theorem dX3_readNumber_66 : decode cX3_readNumber 66 = .ok (.istore_n 1, 1) := by decide +kernel
theorem dX3_readNumber_67 : decode cX3_readNumber 67 = .ok (.aload_n 0, 1) := by decide +kernel
theorem dX3_readNumber_68 : decode cX3_readNumber 68 = .ok (.dup, 1) := by decide +kernel
theorem dX3_readNumber_69 : decode cX3_readNumber 69 = .ok (.getfield 19, 3) := by decide +kernel
theorem dX3_readNumber_72 : decode cX3_readNumber 72 = .ok (.iconst 1, 1) := by decide +kernel
theorem dX3_readNumber_73 : decode cX3_readNumber 73 = .ok (.iadd, 1) := by decide +kernel
theorem dX3_readNumber_74 : decode cX3_readNumber 74 = .ok (.putfield 19, 3) := by decide +kernel
theorem dX3_readNumber_77 : decode cX3_readNumber 77 = .ok (.iload_n 1, 1) := by decide +kernel
theorem dX3_readNumber_78 : decode cX3_readNumber 78 = .ok (.ireturn, 1) := by decide +kernel
theorem dX3_next_0 : decode cX3_next 0 = .ok (.aload_n 0, 1) := by decide +kernel
theorem dX3_next_1 : decode cX3_next 1 = .ok (.getfield 19, 3) := by decide +kernel
theorem dX3_next_4 : decode cX3_next 4 = .ok (.aload_n 0, 1) := by decide +kernel
theorem dX3_next_5 : decode cX3_next 5 = .ok (.getfield 15, 3) := by decide +kernel
theorem dX3_next_8 : decode cX3_next 8 = .ok (.if_icmp .ge 30, 3) := by decide +kernel
theorem dX3_next_11 : decode cX3_next 11 = .ok (.aload_n 0, 1) := by decide +kernel
theorem dX3_next_12 : decode cX3_next 12 = .ok (.getfield 9, 3) := by decide +kernel
theorem dX3_next_15 : decode cX3_next 15 = .ok (.aload_n 0, 1) := by decide +kernel
theorem dX3_next_16 : decode cX3_next 16 = .ok (.getfield 19, 3) := by decide +kernel
theorem dX3_next_19 : decode cX3_next 19 = .ok (.iaload, 1) := by decide +kernel
theorem dX3_next_20 : decode cX3_next 20 = .ok (.bipush 32, 2) := by decide +kernel
theorem dX3_next_22 : decode cX3_next 22 = .ok (.if_icmp .ne 16, 3) := by decide +kernel
theorem dX3_next_25 : decode cX3_next 25 = .ok (.aload_n 0, 1) := by decide +kernel
theorem dX3_next_26 : decode cX3_next 26 = .ok (.dup, 1) := by decide +kernel
theorem dX3_next_27 : decode cX3_next 27 = .ok (.getfield 19, 3) := by decide +kernel
theorem dX3_next_30 : decode cX3_next 30 = .ok (.iconst 1, 1) := by decide +kernel
theorem dX3_next_31 : decode cX3_next 31 = .ok (.iadd, 1) := by decide +kernel
theorem dX3_next_32 : decode cX3_next 32 = .ok (.putfield 19, 3) := by decide +kernel
theorem dX3_next_35 : decode cX3_next 35 = .ok (.goto (-35), 3) := by decide +kernel
theorem dX3_next_38 : decode cX3_next 38 = .ok (.aload_n 0, 1) := by decide +kernel
theorem dX3_next_39 : decode cX3_next 39 = .ok (.getfield 19, 3) := by decide +kernel
theorem dX3_next_42 : decode cX3_next 42 = .ok (.aload_n 0, 1) := by decide +kernel
theorem dX3_next_43 : decode cX3_next 43 = .ok (.getfield 15, 3) := by decide +kernel
theorem dX3_next_46 : decode cX3_next 46 = .ok (.if_icmp .ge 15, 3) := by decide +kernel
theorem dX3_next_49 : decode cX3_next 49 = .ok (.aload_n 0, 1) := by decide +kernel
theorem dX3_next_50 : decode cX3_next 50 = .ok (.getfield 9, 3) := by decide +kernel
theorem dX3_next_53 : decode cX3_next 53 = .ok (.aload_n 0, 1) := by decide +kernel
theorem dX3_next_54 : decode cX3_next 54 = .ok (.getfield 19, 3) := by decide +kernel
theorem dX3_next_57 : decode cX3_next 57 = .ok (.iaload, 1) := by decide +kernel
theorem dX3_next_58 : decode cX3_next 58 = .ok (.goto 4, 3) := by decide +kernel
theorem dX3_next_61 : decode cX3_next 61 = .ok (.iconst (-1), 1) := by decide +kernel
theorem dX3_next_62 : decode cX3_next 62 = .ok (.ireturn, 1) := by decide +kernel
theorem dX3_take_0 : decode cX3_take 0 = .ok (.aload_n 0, 1) := by decide +kernel
theorem dX3_take_1 : decode cX3_take 1 = .ok (.invokevirtual 81, 3) := by decide +kernel
theorem dX3_take_4 : decode cX3_take 4 = .ok (.iload_n 1, 1) := by decide +kernel
theorem dX3_take_5 : decode cX3_take 5 = .ok (.if_icmp .eq 5, 3) := by decide +kernel
theorem dX3_take_8 : decode cX3_take 8 = .ok (.iconst 0, 1) := by decide +kernel
theorem dX3_take_9 : decode cX3_take 9 = .ok (.ireturn, 1) := by decide +kernel
theorem dX3_take_10 : decode cX3_take 10 = .ok (.aload_n 0, 1) := by decide +kernel
theorem dX3_take_11 : decode cX3_take 11 = .ok (.dup, 1) := by decide +kernel
theorem dX3_take_12 : decode cX3_take 12 = .ok (.getfield 19, 3) := by decide +kernel
theorem dX3_take_15 : decode cX3_take 15 = .ok (.iconst 1, 1) := by decide +kernel
theorem dX3_take_16 : decode cX3_take 16 = .ok (.iadd, 1) := by decide +kernel
theorem dX3_take_17 : decode cX3_take 17 = .ok (.putfield 19, 3) := by decide +kernel
theorem dX3_take_20 : decode cX3_take 20 = .ok (.iconst 1, 1) := by decide +kernel
theorem dX3_take_21 : decode cX3_take 21 = .ok (.ireturn, 1) := by decide +kernel
theorem dX3_isDigit_0 : decode cX3_isDigit 0 = .ok (.iload_n 0, 1) := by decide +kernel
theorem dX3_isDigit_1 : decode cX3_isDigit 1 = .ok (.bipush 48, 2) := by decide +kernel
theorem dX3_isDigit_3 : decode cX3_isDigit 3 = .ok (.if_icmp .lt 13, 3) := by decide +kernel
theorem dX3_isDigit_6 : decode cX3_isDigit 6 = .ok (.iload_n 0, 1) := by decide +kernel
theorem dX3_isDigit_7 : decode cX3_isDigit 7 = .ok (.bipush 57, 2) := by decide +kernel
theorem dX3_isDigit_9 : decode cX3_isDigit 9 = .ok (.if_icmp .gt 7, 3) := by decide +kernel
theorem dX3_isDigit_12 : decode cX3_isDigit 12 = .ok (.iconst 1, 1) := by decide +kernel
theorem dX3_isDigit_13 : decode cX3_isDigit 13 = .ok (.goto 4, 3) := by decide +kernel
theorem dX3_isDigit_16 : decode cX3_isDigit 16 = .ok (.iconst 0, 1) := by decide +kernel
theorem dX3_isDigit_17 : decode cX3_isDigit 17 = .ok (.ireturn, 1) := by decide +kernel
theorem dX3_addClaim_0 : decode cX3_addClaim 0 = .ok (.aload_n 0, 1) := by decide +kernel
theorem dX3_addClaim_1 : decode cX3_addClaim 1 = .ok (.getfield 31, 3) := by decide +kernel
theorem dX3_addClaim_4 : decode cX3_addClaim 4 = .ok (.aload_n 0, 1) := by decide +kernel
theorem dX3_addClaim_5 : decode cX3_addClaim 5 = .ok (.getfield 22, 3) := by decide +kernel
theorem dX3_addClaim_8 : decode cX3_addClaim 8 = .ok (.iload_n 1, 1) := by decide +kernel
theorem dX3_addClaim_9 : decode cX3_addClaim 9 = .ok (.iastore, 1) := by decide +kernel
theorem dX3_addClaim_10 : decode cX3_addClaim 10 = .ok (.aload_n 0, 1) := by decide +kernel
theorem dX3_addClaim_11 : decode cX3_addClaim 11 = .ok (.getfield 34, 3) := by decide +kernel
theorem dX3_addClaim_14 : decode cX3_addClaim 14 = .ok (.aload_n 0, 1) := by decide +kernel
theorem dX3_addClaim_15 : decode cX3_addClaim 15 = .ok (.getfield 22, 3) := by decide +kernel
theorem dX3_addClaim_18 : decode cX3_addClaim 18 = .ok (.iload_n 2, 1) := by decide +kernel
theorem dX3_addClaim_19 : decode cX3_addClaim 19 = .ok (.iastore, 1) := by decide +kernel
theorem dX3_addClaim_20 : decode cX3_addClaim 20 = .ok (.aload_n 0, 1) := by decide +kernel
theorem dX3_addClaim_21 : decode cX3_addClaim 21 = .ok (.getfield 37, 3) := by decide +kernel
theorem dX3_addClaim_24 : decode cX3_addClaim 24 = .ok (.aload_n 0, 1) := by decide +kernel
theorem dX3_addClaim_25 : decode cX3_addClaim 25 = .ok (.getfield 22, 3) := by decide +kernel
theorem dX3_addClaim_28 : decode cX3_addClaim 28 = .ok (.iload_n 3, 1) := by decide +kernel
theorem dX3_addClaim_29 : decode cX3_addClaim 29 = .ok (.iastore, 1) := by decide +kernel
theorem dX3_addClaim_30 : decode cX3_addClaim 30 = .ok (.aload_n 0, 1) := by decide +kernel
theorem dX3_addClaim_31 : decode cX3_addClaim 31 = .ok (.dup, 1) := by decide +kernel
theorem dX3_addClaim_32 : decode cX3_addClaim 32 = .ok (.getfield 22, 3) := by decide +kernel
theorem dX3_addClaim_35 : decode cX3_addClaim 35 = .ok (.iconst 1, 1) := by decide +kernel
theorem dX3_addClaim_36 : decode cX3_addClaim 36 = .ok (.iadd, 1) := by decide +kernel
theorem dX3_addClaim_37 : decode cX3_addClaim 37 = .ok (.putfield 22, 3) := by decide +kernel
theorem dX3_addClaim_40 : decode cX3_addClaim 40 = .ok (.return_, 1) := by decide +kernel
theorem dX3_newLabel_0 : decode cX3_newLabel 0 = .ok (.aload_n 0, 1) := by decide +kernel
theorem dX3_newLabel_1 : decode cX3_newLabel 1 = .ok (.getfield 28, 3) := by decide +kernel
theorem dX3_newLabel_4 : decode cX3_newLabel 4 = .ok (.sipush 213, 3) := by decide +kernel
theorem dX3_newLabel_7 : decode cX3_newLabel 7 = .ok (.invokestatic 112, 3) := by decide +kernel
theorem dX3_newLabel_10 : decode cX3_newLabel 10 = .ok (.istore_n 1, 1) := by decide +kernel
theorem dX3_newLabel_11 : decode cX3_newLabel 11 = .ok (.aload_n 0, 1) := by decide +kernel
theorem dX3_newLabel_12 : decode cX3_newLabel 12 = .ok (.getfield 55, 3) := by decide +kernel
theorem dX3_newLabel_15 : decode cX3_newLabel 15 = .ok (.iload_n 1, 1) := by decide +kernel
theorem dX3_newLabel_16 : decode cX3_newLabel 16 = .ok (.iconst (-1), 1) := by decide +kernel
theorem dX3_newLabel_17 : decode cX3_newLabel 17 = .ok (.iastore, 1) := by decide +kernel
theorem dX3_newLabel_18 : decode cX3_newLabel 18 = .ok (.aload_n 0, 1) := by decide +kernel
theorem dX3_newLabel_19 : decode cX3_newLabel 19 = .ok (.getfield 58, 3) := by decide +kernel
theorem dX3_newLabel_22 : decode cX3_newLabel 22 = .ok (.iload_n 1, 1) := by decide +kernel
theorem dX3_newLabel_23 : decode cX3_newLabel 23 = .ok (.iconst 0, 1) := by decide +kernel
theorem dX3_newLabel_24 : decode cX3_newLabel 24 = .ok (.iastore, 1) := by decide +kernel
theorem dX3_newLabel_25 : decode cX3_newLabel 25 = .ok (.aload_n 0, 1) := by decide +kernel
theorem dX3_newLabel_26 : decode cX3_newLabel 26 = .ok (.iload_n 1, 1) := by decide +kernel
theorem dX3_newLabel_27 : decode cX3_newLabel 27 = .ok (.iconst 1, 1) := by decide +kernel
theorem dX3_newLabel_28 : decode cX3_newLabel 28 = .ok (.iadd, 1) := by decide +kernel
theorem dX3_newLabel_29 : decode cX3_newLabel 29 = .ok (.putfield 28, 3) := by decide +kernel
theorem dX3_newLabel_32 : decode cX3_newLabel 32 = .ok (.iload_n 1, 1) := by decide +kernel
theorem dX3_newLabel_33 : decode cX3_newLabel 33 = .ok (.ireturn, 1) := by decide +kernel
theorem dX3_join_0 : decode cX3_join 0 = .ok (.aload_n 0, 1) := by decide +kernel
theorem dX3_join_1 : decode cX3_join 1 = .ok (.getfield 55, 3) := by decide +kernel
theorem dX3_join_4 : decode cX3_join 4 = .ok (.iload_n 1, 1) := by decide +kernel
theorem dX3_join_5 : decode cX3_join 5 = .ok (.iload_n 2, 1) := by decide +kernel
theorem dX3_join_6 : decode cX3_join 6 = .ok (.iastore, 1) := by decide +kernel
theorem dX3_join_7 : decode cX3_join 7 = .ok (.return_, 1) := by decide +kernel
theorem dX3_fix_0 : decode cX3_fix 0 = .ok (.aload_n 0, 1) := by decide +kernel
theorem dX3_fix_1 : decode cX3_fix 1 = .ok (.getfield 58, 3) := by decide +kernel
theorem dX3_fix_4 : decode cX3_fix 4 = .ok (.iload_n 1, 1) := by decide +kernel
theorem dX3_fix_5 : decode cX3_fix 5 = .ok (.iload_n 2, 1) := by decide +kernel
theorem dX3_fix_6 : decode cX3_fix 6 = .ok (.iastore, 1) := by decide +kernel
theorem dX3_fix_7 : decode cX3_fix 7 = .ok (.return_, 1) := by decide +kernel
theorem dX3_followLabels_0 : decode cX3_followLabels 0 = .ok (.iconst 0, 1) := by decide +kernel
theorem dX3_followLabels_1 : decode cX3_followLabels 1 = .ok (.istore_n 1, 1) := by decide +kernel
theorem dX3_followLabels_2 : decode cX3_followLabels 2 = .ok (.iload_n 1, 1) := by decide +kernel
theorem dX3_followLabels_3 : decode cX3_followLabels 3 = .ok (.aload_n 0, 1) := by decide +kernel
theorem dX3_followLabels_4 : decode cX3_followLabels 4 = .ok (.getfield 22, 3) := by decide +kernel
theorem dX3_followLabels_7 : decode cX3_followLabels 7 = .ok (.if_icmp .ge 41, 3) := by decide +kernel
theorem dX3_followLabels_10 : decode cX3_followLabels 10 = .ok (.aload_n 0, 1) := by decide +kernel
theorem dX3_followLabels_11 : decode cX3_followLabels 11 = .ok (.getfield 40, 3) := by decide +kernel
theorem dX3_followLabels_14 : decode cX3_followLabels 14 = .ok (.iload_n 1, 1) := by decide +kernel
theorem dX3_followLabels_15 : decode cX3_followLabels 15 = .ok (.aload_n 0, 1) := by decide +kernel
theorem dX3_followLabels_16 : decode cX3_followLabels 16 = .ok (.aload_n 0, 1) := by decide +kernel
theorem dX3_followLabels_17 : decode cX3_followLabels 17 = .ok (.getfield 40, 3) := by decide +kernel
theorem dX3_followLabels_20 : decode cX3_followLabels 20 = .ok (.iload_n 1, 1) := by decide +kernel
theorem dX3_followLabels_21 : decode cX3_followLabels 21 = .ok (.iaload, 1) := by decide +kernel
theorem dX3_followLabels_22 : decode cX3_followLabels 22 = .ok (.invokevirtual 118, 3) := by decide +kernel
theorem dX3_followLabels_25 : decode cX3_followLabels 25 = .ok (.iastore, 1) := by decide +kernel
theorem dX3_followLabels_26 : decode cX3_followLabels 26 = .ok (.aload_n 0, 1) := by decide +kernel
theorem dX3_followLabels_27 : decode cX3_followLabels 27 = .ok (.getfield 43, 3) := by decide +kernel
theorem dX3_followLabels_30 : decode cX3_followLabels 30 = .ok (.iload_n 1, 1) := by decide +kernel
theorem dX3_followLabels_31 : decode cX3_followLabels 31 = .ok (.aload_n 0, 1) := by decide +kernel
theorem dX3_followLabels_32 : decode cX3_followLabels 32 = .ok (.aload_n 0, 1) := by decide +kernel
theorem dX3_followLabels_33 : decode cX3_followLabels 33 = .ok (.getfield 43, 3) := by decide +kernel
theorem dX3_followLabels_36 : decode cX3_followLabels 36 = .ok (.iload_n 1, 1) := by decide +kernel
theorem dX3_followLabels_37 : decode cX3_followLabels 37 = .ok (.iaload, 1) := by decide +kernel
theorem dX3_followLabels_38 : decode cX3_followLabels 38 = .ok (.invokevirtual 118, 3) := by decide +kernel
theorem dX3_followLabels_41 : decode cX3_followLabels 41 = .ok (.iastore, 1) := by decide +kernel
theorem dX3_followLabels_42 : decode cX3_followLabels 42 = .ok (.iinc 1 1, 3) := by decide +kernel
theorem dX3_followLabels_45 : decode cX3_followLabels 45 = .ok (.goto (-43), 3) := by decide +kernel
theorem dX3_followLabels_48 : decode cX3_followLabels 48 = .ok (.return_, 1) := by decide +kernel
theorem dX3_follow_0 : decode cX3_follow 0 = .ok (.iload_n 1, 1) := by decide +kernel
theorem dX3_follow_1 : decode cX3_follow 1 = .ok (.istore_n 2, 1) := by decide +kernel
theorem dX3_follow_2 : decode cX3_follow 2 = .ok (.iconst 0, 1) := by decide +kernel
theorem dX3_follow_3 : decode cX3_follow 3 = .ok (.istore_n 3, 1) := by decide +kernel
theorem dX3_follow_4 : decode cX3_follow 4 = .ok (.iload_n 3, 1) := by decide +kernel
theorem dX3_follow_5 : decode cX3_follow 5 = .ok (.aload_n 0, 1) := by decide +kernel
theorem dX3_follow_6 : decode cX3_follow 6 = .ok (.getfield 28, 3) := by decide +kernel
theorem dX3_follow_9 : decode cX3_follow 9 = .ok (.if_icmp .ge 26, 3) := by decide +kernel
theorem dX3_follow_12 : decode cX3_follow 12 = .ok (.aload_n 0, 1) := by decide +kernel
theorem dX3_follow_13 : decode cX3_follow 13 = .ok (.getfield 55, 3) := by decide +kernel
theorem dX3_follow_16 : decode cX3_follow 16 = .ok (.iload_n 2, 1) := by decide +kernel
theorem dX3_follow_17 : decode cX3_follow 17 = .ok (.iaload, 1) := by decide +kernel
theorem dX3_follow_18 : decode cX3_follow 18 = .ok (.iconst (-1), 1) := by decide +kernel
theorem dX3_follow_19 : decode cX3_follow 19 = .ok (.if_icmp .eq 16, 3) := by decide +kernel
theorem dX3_follow_22 : decode cX3_follow 22 = .ok (.aload_n 0, 1) := by decide +kernel
theorem dX3_follow_23 : decode cX3_follow 23 = .ok (.getfield 55, 3) := by decide +kernel
theorem dX3_follow_26 : decode cX3_follow 26 = .ok (.iload_n 2, 1) := by decide +kernel
theorem dX3_follow_27 : decode cX3_follow 27 = .ok (.iaload, 1) := by decide +kernel
theorem dX3_follow_28 : decode cX3_follow 28 = .ok (.istore_n 2, 1) := by decide +kernel
theorem dX3_follow_29 : decode cX3_follow 29 = .ok (.iinc 3 1, 3) := by decide +kernel
theorem dX3_follow_32 : decode cX3_follow 32 = .ok (.goto (-28), 3) := by decide +kernel
theorem dX3_follow_35 : decode cX3_follow 35 = .ok (.aload_n 0, 1) := by decide +kernel
theorem dX3_follow_36 : decode cX3_follow 36 = .ok (.getfield 58, 3) := by decide +kernel
theorem dX3_follow_39 : decode cX3_follow 39 = .ok (.iload_n 2, 1) := by decide +kernel
theorem dX3_follow_40 : decode cX3_follow 40 = .ok (.iaload, 1) := by decide +kernel
theorem dX3_follow_41 : decode cX3_follow 41 = .ok (.ireturn, 1) := by decide +kernel
theorem dX4_init_0 : decode cX4_init 0 = .ok (.aload_n 0, 1) := by decide +kernel
theorem dX4_init_1 : decode cX4_init 1 = .ok (.invokespecial 3, 3) := by decide +kernel
theorem dX4_init_4 : decode cX4_init 4 = .ok (.aload_n 0, 1) := by decide +kernel
theorem dX4_init_5 : decode cX4_init 5 = .ok (.bipush 30, 2) := by decide +kernel
theorem dX4_init_7 : decode cX4_init 7 = .ok (.putfield 9, 3) := by decide +kernel
theorem dX4_init_10 : decode cX4_init 10 = .ok (.aload_n 0, 1) := by decide +kernel
theorem dX4_init_11 : decode cX4_init 11 = .ok (.iconst 5, 1) := by decide +kernel
theorem dX4_init_12 : decode cX4_init 12 = .ok (.putfield 15, 3) := by decide +kernel
theorem dX4_init_15 : decode cX4_init 15 = .ok (.aload_n 0, 1) := by decide +kernel
theorem dX4_init_16 : decode cX4_init 16 = .ok (.iconst 0, 1) := by decide +kernel
theorem dX4_init_17 : decode cX4_init 17 = .ok (.putfield 18, 3) := by decide +kernel
theorem dX4_init_20 : decode cX4_init 20 = .ok (.aload_n 0, 1) := by decide +kernel
theorem dX4_init_21 : decode cX4_init 21 = .ok (.bipush (-4), 2) := by decide +kernel
theorem dX4_init_23 : decode cX4_init 23 = .ok (.putfield 21, 3) := by decide +kernel
theorem dX4_init_26 : decode cX4_init 26 = .ok (.aload_n 0, 1) := by decide +kernel
theorem dX4_init_27 : decode cX4_init 27 = .ok (.iconst 0, 1) := by decide +kernel
theorem dX4_init_28 : decode cX4_init 28 = .ok (.putfield 24, 3) := by decide +kernel
theorem dX4_init_31 : decode cX4_init 31 = .ok (.aload_n 0, 1) := by decide +kernel
theorem dX4_init_32 : decode cX4_init 32 = .ok (.iconst 0, 1) := by decide +kernel
theorem dX4_init_33 : decode cX4_init 33 = .ok (.putfield 27, 3) := by decide +kernel
theorem dX4_init_36 : decode cX4_init 36 = .ok (.aload_n 0, 1) := by decide +kernel
theorem dX4_init_37 : decode cX4_init 37 = .ok (.iconst 0, 1) := by decide +kernel
theorem dX4_init_38 : decode cX4_init 38 = .ok (.putfield 30, 3) := by decide +kernel
theorem dX4_init_41 : decode cX4_init 41 = .ok (.aload_n 0, 1) := by decide +kernel
theorem dX4_init_42 : decode cX4_init 42 = .ok (.bipush 12, 2) := by decide +kernel
theorem dX4_init_44 : decode cX4_init 44 = .ok (.anewarray 33, 3) := by decide +kernel
theorem dX4_init_47 : decode cX4_init 47 = .ok (.putfield 35, 3) := by decide +kernel
theorem dX4_init_50 : decode cX4_init 50 = .ok (.aload_n 0, 1) := by decide +kernel
theorem dX4_init_51 : decode cX4_init 51 = .ok (.iconst 3, 1) := by decide +kernel
theorem dX4_init_52 : decode cX4_init 52 = .ok (.anewarray 39, 3) := by decide +kernel
theorem dX4_init_55 : decode cX4_init 55 = .ok (.putfield 41, 3) := by decide +kernel
theorem dX4_init_58 : decode cX4_init 58 = .ok (.aload_n 0, 1) := by decide +kernel
theorem dX4_init_59 : decode cX4_init 59 = .ok (.iconst 4, 1) := by decide +kernel
theorem dX4_init_60 : decode cX4_init 60 = .ok (.newarray .int, 2) := by decide +kernel
theorem dX4_init_62 : decode cX4_init 62 = .ok (.putfield 45, 3) := by decide +kernel
theorem dX4_init_65 : decode cX4_init 65 = .ok (.aload_n 0, 1) := by decide +kernel
theorem dX4_init_66 : decode cX4_init 66 = .ok (.iconst 4, 1) := by decide +kernel
theorem dX4_init_67 : decode cX4_init 67 = .ok (.newarray .int, 2) := by decide +kernel
theorem dX4_init_69 : decode cX4_init 69 = .ok (.putfield 49, 3) := by decide +kernel
theorem dX4_init_72 : decode cX4_init 72 = .ok (.aload_n 0, 1) := by decide +kernel
theorem dX4_init_73 : decode cX4_init 73 = .ok (.iconst 4, 1) := by decide +kernel
theorem dX4_init_74 : decode cX4_init 74 = .ok (.newarray .int, 2) := by decide +kernel
theorem dX4_init_76 : decode cX4_init 76 = .ok (.putfield 52, 3) := by decide +kernel
theorem dX4_init_79 : decode cX4_init 79 = .ok (.aload_n 0, 1) := by decide +kernel
theorem dX4_init_80 : decode cX4_init 80 = .ok (.iconst 4, 1) := by decide +kernel
theorem dX4_init_81 : decode cX4_init 81 = .ok (.newarray .int, 2) := by decide +kernel
theorem dX4_init_83 : decode cX4_init 83 = .ok (.putfield 55, 3) := by decide +kernel
theorem dX4_init_86 : decode cX4_init 86 = .ok (.aload_n 0, 1) := by decide +kernel
theorem dX4_init_87 : decode cX4_init 87 = .ok (.iconst 4, 1) := by decide +kernel
theorem dX4_init_88 : decode cX4_init 88 = .ok (.newarray .int, 2) := by decide +kernel
theorem dX4_init_90 : decode cX4_init 90 = .ok (.putfield 58, 3) := by decide +kernel
theorem dX4_init_93 : decode cX4_init 93 = .ok (.aload_n 0, 1) := by decide +kernel
theorem dX4_init_94 : decode cX4_init 94 = .ok (.iconst 4, 1) := by decide +kernel
theorem dX4_init_95 : decode cX4_init 95 = .ok (.newarray .int, 2) := by decide +kernel
theorem dX4_init_97 : decode cX4_init 97 = .ok (.putfield 61, 3) := by decide +kernel
theorem dX4_init_100 : decode cX4_init 100 = .ok (.iconst 0, 1) := by decide +kernel
theorem dX4_init_101 : decode cX4_init 101 = .ok (.istore_n 2, 1) := by decide +kernel
theorem dX4_init_102 : decode cX4_init 102 = .ok (.iload_n 2, 1) := by decide +kernel
theorem dX4_init_103 : decode cX4_init 103 = .ok (.bipush 12, 2) := by decide +kernel
theorem dX4_init_105 : decode cX4_init 105 = .ok (.if_icmp .ge 22, 3) := by decide +kernel
theorem dX4_init_108 : decode cX4_init 108 = .ok (.aload_n 0, 1) := by decide +kernel
theorem dX4_init_109 : decode cX4_init 109 = .ok (.getfield 35, 3) := by decide +kernel
theorem dX4_init_112 : decode cX4_init 112 = .ok (.iload_n 2, 1) := by decide +kernel
theorem dX4_init_113 : decode cX4_init 113 = .ok (.new 33, 3) := by decide +kernel
theorem dX4_init_116 : decode cX4_init 116 = .ok (.dup, 1) := by decide +kernel
theorem dX4_init_117 : decode cX4_init 117 = .ok (.invokespecial 64, 3) := by decide +kernel
theorem dX4_init_120 : decode cX4_init 120 = .ok (.aastore, 1) := by decide +kernel
theorem dX4_init_121 : decode cX4_init 121 = .ok (.iinc 2 1, 3) := by decide +kernel
theorem dX4_init_124 : decode cX4_init 124 = .ok (.goto (-22), 3) := by decide +kernel
theorem dX4_init_127 : decode cX4_init 127 = .ok (.iconst 0, 1) := by decide +kernel
theorem dX4_init_128 : decode cX4_init 128 = .ok (.istore_n 2, 1) := by decide +kernel
theorem dX4_init_129 : decode cX4_init 129 = .ok (.iload_n 2, 1) := by decide +kernel
theorem dX4_init_130 : decode cX4_init 130 = .ok (.iconst 3, 1) := by decide +kernel
theorem dX4_init_131 : decode cX4_init 131 = .ok (.if_icmp .ge 16, 3) := by decide +kernel
theorem dX4_init_134 : decode cX4_init 134 = .ok (.aload_n 0, 1) := by decide +kernel
theorem dX4_init_135 : decode cX4_init 135 = .ok (.getfield 41, 3) := by decide +kernel
theorem dX4_init_138 : decode cX4_init 138 = .ok (.iload_n 2, 1) := by decide +kernel
theorem dX4_init_139 : decode cX4_init 139 = .ok (.aload_n 1, 1) := by decide +kernel
theorem dX4_init_140 : decode cX4_init 140 = .ok (.aastore, 1) := by decide +kernel
theorem dX4_init_141 : decode cX4_init 141 = .ok (.iinc 2 1, 3) := by decide +kernel
theorem dX4_init_144 : decode cX4_init 144 = .ok (.goto (-15), 3) := by decide +kernel
theorem dX4_init_147 : decode cX4_init 147 = .ok (.return_, 1) := by decide +kernel
theorem dX4_takeFrom_0 : decode cX4_takeFrom 0 = .ok (.aload_n 0, 1) := by decide +kernel
theorem dX4_takeFrom_1 : decode cX4_takeFrom 1 = .ok (.aload_n 1, 1) := by decide +kernel
theorem dX4_takeFrom_2 : decode cX4_takeFrom 2 = .ok (.getfield 9, 3) := by decide +kernel
theorem dX4_takeFrom_5 : decode cX4_takeFrom 5 = .ok (.putfield 9, 3) := by decide +kernel
theorem dX4_takeFrom_8 : decode cX4_takeFrom 8 = .ok (.aload_n 0, 1) := by decide +kernel
theorem dX4_takeFrom_9 : decode cX4_takeFrom 9 = .ok (.aload_n 1, 1) := by decide +kernel
theorem dX4_takeFrom_10 : decode cX4_takeFrom 10 = .ok (.getfield 15, 3) := by decide +kernel
theorem dX4_takeFrom_13 : decode cX4_takeFrom 13 = .ok (.putfield 15, 3) := by decide +kernel
theorem dX4_takeFrom_16 : decode cX4_takeFrom 16 = .ok (.aload_n 0, 1) := by decide +kernel
theorem dX4_takeFrom_17 : decode cX4_takeFrom 17 = .ok (.aload_n 1, 1) := by decide +kernel
theorem dX4_takeFrom_18 : decode cX4_takeFrom 18 = .ok (.getfield 18, 3) := by decide +kernel
theorem dX4_takeFrom_21 : decode cX4_takeFrom 21 = .ok (.putfield 18, 3) := by decide +kernel
theorem dX4_takeFrom_24 : decode cX4_takeFrom 24 = .ok (.aload_n 0, 1) := by decide +kernel
theorem dX4_takeFrom_25 : decode cX4_takeFrom 25 = .ok (.aload_n 1, 1) := by decide +kernel
theorem dX4_takeFrom_26 : decode cX4_takeFrom 26 = .ok (.getfield 21, 3) := by decide +kernel
theorem dX4_takeFrom_29 : decode cX4_takeFrom 29 = .ok (.putfield 21, 3) := by decide +kernel
theorem dX4_takeFrom_32 : decode cX4_takeFrom 32 = .ok (.aload_n 0, 1) := by decide +kernel
theorem dX4_takeFrom_33 : decode cX4_takeFrom 33 = .ok (.aload_n 1, 1) := by decide +kernel
theorem dX4_takeFrom_34 : decode cX4_takeFrom 34 = .ok (.getfield 24, 3) := by decide +kernel
theorem dX4_takeFrom_37 : decode cX4_takeFrom 37 = .ok (.putfield 24, 3) := by decide +kernel
theorem dX4_takeFrom_40 : decode cX4_takeFrom 40 = .ok (.iconst 0, 1) := by decide +kernel
theorem dX4_takeFrom_41 : decode cX4_takeFrom 41 = .ok (.istore_n 2, 1) := by decide +kernel
theorem dX4_takeFrom_42 : decode cX4_takeFrom 42 = .ok (.iload_n 2, 1) := by decide +kernel
theorem dX4_takeFrom_43 : decode cX4_takeFrom 43 = .ok (.aload_n 0, 1) := by decide +kernel
theorem dX4_takeFrom_44 : decode cX4_takeFrom 44 = .ok (.getfield 24, 3) := by decide +kernel
theorem dX4_takeFrom_47 : decode cX4_takeFrom 47 = .ok (.if_icmp .ge 24, 3) := by decide +kernel
theorem dX4_takeFrom_50 : decode cX4_takeFrom 50 = .ok (.aload_n 0, 1) := by decide +kernel
theorem dX4_takeFrom_51 : decode cX4_takeFrom 51 = .ok (.getfield 35, 3) := by decide +kernel
theorem dX4_takeFrom_54 : decode cX4_takeFrom 54 = .ok (.iload_n 2, 1) := by decide +kernel
theorem dX4_takeFrom_55 : decode cX4_takeFrom 55 = .ok (.aaload, 1) := by decide +kernel
theorem dX4_takeFrom_56 : decode cX4_takeFrom 56 = .ok (.aload_n 1, 1) := by decide +kernel
theorem dX4_takeFrom_57 : decode cX4_takeFrom 57 = .ok (.getfield 35, 3) := by decide +kernel
theorem dX4_takeFrom_60 : decode cX4_takeFrom 60 = .ok (.iload_n 2, 1) := by decide +kernel
theorem dX4_takeFrom_61 : decode cX4_takeFrom 61 = .ok (.aaload, 1) := by decide +kernel
theorem dX4_takeFrom_62 : decode cX4_takeFrom 62 = .ok (.invokevirtual 65, 3) := by decide +kernel
theorem dX4_takeFrom_65 : decode cX4_takeFrom 65 = .ok (.iinc 2 1, 3) := by decide +kernel
theorem dX4_takeFrom_68 : decode cX4_takeFrom 68 = .ok (.goto (-26), 3) := by decide +kernel
theorem dX4_takeFrom_71 : decode cX4_takeFrom 71 = .ok (.iconst 0, 1) := by decide +kernel
theorem dX4_takeFrom_72 : decode cX4_takeFrom 72 = .ok (.istore_n 2, 1) := by decide +kernel
theorem dX4_takeFrom_73 : decode cX4_takeFrom 73 = .ok (.iload_n 2, 1) := by decide +kernel
theorem dX4_takeFrom_74 : decode cX4_takeFrom 74 = .ok (.iconst 3, 1) := by decide +kernel
theorem dX4_takeFrom_75 : decode cX4_takeFrom 75 = .ok (.if_icmp .ge 21, 3) := by decide +kernel
theorem dX4_takeFrom_78 : decode cX4_takeFrom 78 = .ok (.aload_n 0, 1) := by decide +kernel
theorem dX4_takeFrom_79 : decode cX4_takeFrom 79 = .ok (.getfield 41, 3) := by decide +kernel
theorem dX4_takeFrom_82 : decode cX4_takeFrom 82 = .ok (.iload_n 2, 1) := by decide +kernel
theorem dX4_takeFrom_83 : decode cX4_takeFrom 83 = .ok (.aload_n 1, 1) := by decide +kernel
theorem dX4_takeFrom_84 : decode cX4_takeFrom 84 = .ok (.getfield 41, 3) := by decide +kernel
theorem dX4_takeFrom_87 : decode cX4_takeFrom 87 = .ok (.iload_n 2, 1) := by decide +kernel
theorem dX4_takeFrom_88 : decode cX4_takeFrom 88 = .ok (.aaload, 1) := by decide +kernel
theorem dX4_takeFrom_89 : decode cX4_takeFrom 89 = .ok (.aastore, 1) := by decide +kernel
theorem dX4_takeFrom_90 : decode cX4_takeFrom 90 = .ok (.iinc 2 1, 3) := by decide +kernel
theorem dX4_takeFrom_93 : decode cX4_takeFrom 93 = .ok (.goto (-20), 3) := by decide +kernel
theorem dX4_takeFrom_96 : decode cX4_takeFrom 96 = .ok (.aload_n 0, 1) := by decide +kernel
theorem dX4_takeFrom_97 : decode cX4_takeFrom 97 = .ok (.aload_n 1, 1) := by decide +kernel
theorem dX4_takeFrom_98 : decode cX4_takeFrom 98 = .ok (.invokevirtual 69, 3) := by decide +kernel
theorem dX4_takeFrom_101 : decode cX4_takeFrom 101 = .ok (.return_, 1) := by decide +kernel
theorem dX4_takeBoardsAndLoops_0 : decode cX4_takeBoardsAndLoops 0 = .ok (.aload_n 0, 1) := by decide +kernel
theorem dX4_takeBoardsAndLoops_1 : decode cX4_takeBoardsAndLoops 1 = .ok (.aload_n 1, 1) := by decide +kernel
theorem dX4_takeBoardsAndLoops_2 : decode cX4_takeBoardsAndLoops 2 = .ok (.getfield 27, 3) := by decide +kernel
theorem dX4_takeBoardsAndLoops_5 : decode cX4_takeBoardsAndLoops 5 = .ok (.putfield 27, 3) := by decide +kernel
theorem dX4_takeBoardsAndLoops_8 : decode cX4_takeBoardsAndLoops 8 = .ok (.iconst 0, 1) := by decide +kernel
theorem dX4_takeBoardsAndLoops_9 : decode cX4_takeBoardsAndLoops 9 = .ok (.istore_n 2, 1) := by decide +kernel
theorem dX4_takeBoardsAndLoops_10 : decode cX4_takeBoardsAndLoops 10 = .ok (.iload_n 2, 1) := by decide +kernel
theorem dX4_takeBoardsAndLoops_11 : decode cX4_takeBoardsAndLoops 11 = .ok (.aload_n 0, 1) := by decide +kernel
theorem dX4_takeBoardsAndLoops_12 : decode cX4_takeBoardsAndLoops 12 = .ok (.getfield 27, 3) := by decide +kernel
theorem dX4_takeBoardsAndLoops_15 : decode cX4_takeBoardsAndLoops 15 = .ok (.if_icmp .ge 45, 3) := by decide +kernel
theorem dX4_takeBoardsAndLoops_18 : decode cX4_takeBoardsAndLoops 18 = .ok (.aload_n 0, 1) := by decide +kernel
theorem dX4_takeBoardsAndLoops_19 : decode cX4_takeBoardsAndLoops 19 = .ok (.getfield 45, 3) := by decide +kernel
theorem dX4_takeBoardsAndLoops_22 : decode cX4_takeBoardsAndLoops 22 = .ok (.iload_n 2, 1) := by decide +kernel
theorem dX4_takeBoardsAndLoops_23 : decode cX4_takeBoardsAndLoops 23 = .ok (.aload_n 1, 1) := by decide +kernel
theorem dX4_takeBoardsAndLoops_24 : decode cX4_takeBoardsAndLoops 24 = .ok (.getfield 45, 3) := by decide +kernel
theorem dX4_takeBoardsAndLoops_27 : decode cX4_takeBoardsAndLoops 27 = .ok (.iload_n 2, 1) := by decide +kernel
theorem dX4_takeBoardsAndLoops_28 : decode cX4_takeBoardsAndLoops 28 = .ok (.iaload, 1) := by decide +kernel
theorem dX4_takeBoardsAndLoops_29 : decode cX4_takeBoardsAndLoops 29 = .ok (.iastore, 1) := by decide +kernel
theorem dX4_takeBoardsAndLoops_30 : decode cX4_takeBoardsAndLoops 30 = .ok (.aload_n 0, 1) := by decide +kernel
theorem dX4_takeBoardsAndLoops_31 : decode cX4_takeBoardsAndLoops 31 = .ok (.getfield 49, 3) := by decide +kernel
theorem dX4_takeBoardsAndLoops_34 : decode cX4_takeBoardsAndLoops 34 = .ok (.iload_n 2, 1) := by decide +kernel
theorem dX4_takeBoardsAndLoops_35 : decode cX4_takeBoardsAndLoops 35 = .ok (.aload_n 1, 1) := by decide +kernel
theorem dX4_takeBoardsAndLoops_36 : decode cX4_takeBoardsAndLoops 36 = .ok (.getfield 49, 3) := by decide +kernel
theorem dX4_takeBoardsAndLoops_39 : decode cX4_takeBoardsAndLoops 39 = .ok (.iload_n 2, 1) := by decide +kernel
theorem dX4_takeBoardsAndLoops_40 : decode cX4_takeBoardsAndLoops 40 = .ok (.iaload, 1) := by decide +kernel
theorem dX4_takeBoardsAndLoops_41 : decode cX4_takeBoardsAndLoops 41 = .ok (.iastore, 1) := by decide +kernel
theorem dX4_takeBoardsAndLoops_42 : decode cX4_takeBoardsAndLoops 42 = .ok (.aload_n 0, 1) := by decide +kernel
theorem dX4_takeBoardsAndLoops_43 : decode cX4_takeBoardsAndLoops 43 = .ok (.getfield 52, 3) := by decide +kernel
theorem dX4_takeBoardsAndLoops_46 : decode cX4_takeBoardsAndLoops 46 = .ok (.iload_n 2, 1) := by decide +kernel
theorem dX4_takeBoardsAndLoops_47 : decode cX4_takeBoardsAndLoops 47 = .ok (.aload_n 1, 1) := by decide +kernel
theorem dX4_takeBoardsAndLoops_48 : decode cX4_takeBoardsAndLoops 48 = .ok (.getfield 52, 3) := by decide +kernel
theorem dX4_takeBoardsAndLoops_51 : decode cX4_takeBoardsAndLoops 51 = .ok (.iload_n 2, 1) := by decide +kernel
theorem dX4_takeBoardsAndLoops_52 : decode cX4_takeBoardsAndLoops 52 = .ok (.iaload, 1) := by decide +kernel
theorem dX4_takeBoardsAndLoops_53 : decode cX4_takeBoardsAndLoops 53 = .ok (.iastore, 1) := by decide +kernel
theorem dX4_takeBoardsAndLoops_54 : decode cX4_takeBoardsAndLoops 54 = .ok (.iinc 2 1, 3) := by decide +kernel
theorem dX4_takeBoardsAndLoops_57 : decode cX4_takeBoardsAndLoops 57 = .ok (.goto (-47), 3) := by decide +kernel
theorem dX4_takeBoardsAndLoops_60 : decode cX4_takeBoardsAndLoops 60 = .ok (.aload_n 0, 1) := by decide +kernel
theorem dX4_takeBoardsAndLoops_61 : decode cX4_takeBoardsAndLoops 61 = .ok (.aload_n 1, 1) := by decide +kernel
theorem dX4_takeBoardsAndLoops_62 : decode cX4_takeBoardsAndLoops 62 = .ok (.getfield 30, 3) := by decide +kernel
theorem dX4_takeBoardsAndLoops_65 : decode cX4_takeBoardsAndLoops 65 = .ok (.putfield 30, 3) := by decide +kernel
theorem dX4_takeBoardsAndLoops_68 : decode cX4_takeBoardsAndLoops 68 = .ok (.iconst 0, 1) := by decide +kernel
theorem dX4_takeBoardsAndLoops_69 : decode cX4_takeBoardsAndLoops 69 = .ok (.istore_n 2, 1) := by decide +kernel
theorem dX4_takeBoardsAndLoops_70 : decode cX4_takeBoardsAndLoops 70 = .ok (.iload_n 2, 1) := by decide +kernel
theorem dX4_takeBoardsAndLoops_71 : decode cX4_takeBoardsAndLoops 71 = .ok (.aload_n 0, 1) := by decide +kernel
theorem dX4_takeBoardsAndLoops_72 : decode cX4_takeBoardsAndLoops 72 = .ok (.getfield 30, 3) := by decide +kernel
theorem dX4_takeBoardsAndLoops_75 : decode cX4_takeBoardsAndLoops 75 = .ok (.if_icmp .ge 45, 3) := by decide +kernel
theorem dX4_takeBoardsAndLoops_78 : decode cX4_takeBoardsAndLoops 78 = .ok (.aload_n 0, 1) := by decide +kernel
theorem dX4_takeBoardsAndLoops_79 : decode cX4_takeBoardsAndLoops 79 = .ok (.getfield 55, 3) := by decide +kernel
theorem dX4_takeBoardsAndLoops_82 : decode cX4_takeBoardsAndLoops 82 = .ok (.iload_n 2, 1) := by decide +kernel
theorem dX4_takeBoardsAndLoops_83 : decode cX4_takeBoardsAndLoops 83 = .ok (.aload_n 1, 1) := by decide +kernel
theorem dX4_takeBoardsAndLoops_84 : decode cX4_takeBoardsAndLoops 84 = .ok (.getfield 55, 3) := by decide +kernel
theorem dX4_takeBoardsAndLoops_87 : decode cX4_takeBoardsAndLoops 87 = .ok (.iload_n 2, 1) := by decide +kernel
theorem dX4_takeBoardsAndLoops_88 : decode cX4_takeBoardsAndLoops 88 = .ok (.iaload, 1) := by decide +kernel
theorem dX4_takeBoardsAndLoops_89 : decode cX4_takeBoardsAndLoops 89 = .ok (.iastore, 1) := by decide +kernel
theorem dX4_takeBoardsAndLoops_90 : decode cX4_takeBoardsAndLoops 90 = .ok (.aload_n 0, 1) := by decide +kernel
theorem dX4_takeBoardsAndLoops_91 : decode cX4_takeBoardsAndLoops 91 = .ok (.getfield 58, 3) := by decide +kernel
theorem dX4_takeBoardsAndLoops_94 : decode cX4_takeBoardsAndLoops 94 = .ok (.iload_n 2, 1) := by decide +kernel
theorem dX4_takeBoardsAndLoops_95 : decode cX4_takeBoardsAndLoops 95 = .ok (.aload_n 1, 1) := by decide +kernel
theorem dX4_takeBoardsAndLoops_96 : decode cX4_takeBoardsAndLoops 96 = .ok (.getfield 58, 3) := by decide +kernel
theorem dX4_takeBoardsAndLoops_99 : decode cX4_takeBoardsAndLoops 99 = .ok (.iload_n 2, 1) := by decide +kernel
theorem dX4_takeBoardsAndLoops_100 : decode cX4_takeBoardsAndLoops 100 = .ok (.iaload, 1) := by decide +kernel
theorem dX4_takeBoardsAndLoops_101 : decode cX4_takeBoardsAndLoops 101 = .ok (.iastore, 1) := by decide +kernel
theorem dX4_takeBoardsAndLoops_102 : decode cX4_takeBoardsAndLoops 102 = .ok (.aload_n 0, 1) := by decide +kernel
theorem dX4_takeBoardsAndLoops_103 : decode cX4_takeBoardsAndLoops 103 = .ok (.getfield 61, 3) := by decide +kernel
theorem dX4_takeBoardsAndLoops_106 : decode cX4_takeBoardsAndLoops 106 = .ok (.iload_n 2, 1) := by decide +kernel
