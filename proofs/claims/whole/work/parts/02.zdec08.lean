theorem dX7_isEven_38 : decode cX7_isEven 38 = .ok (.invokevirtual 57, 3) := by decide +kernel
theorem dX7_isEven_41 : decode cX7_isEven 41 = .ok (.aload_n 0, 1) := by decide +kernel
theorem dX7_isEven_42 : decode cX7_isEven 42 = .ok (.iload_n 1, 1) := by decide +kernel
theorem dX7_isEven_43 : decode cX7_isEven 43 = .ok (.iconst 0, 1) := by decide +kernel
theorem dX7_isEven_44 : decode cX7_isEven 44 = .ok (.iconst 2, 1) := by decide +kernel
theorem dX7_isEven_45 : decode cX7_isEven 45 = .ok (.invokevirtual 57, 3) := by decide +kernel
theorem dX7_isEven_48 : decode cX7_isEven 48 = .ok (.if_icmp .ne 7, 3) := by decide +kernel
theorem dX7_isEven_51 : decode cX7_isEven 51 = .ok (.iconst 1, 1) := by decide +kernel
theorem dX7_isEven_52 : decode cX7_isEven 52 = .ok (.goto 4, 3) := by decide +kernel
theorem dX7_isEven_55 : decode cX7_isEven 55 = .ok (.iconst 0, 1) := by decide +kernel
theorem dX7_isEven_56 : decode cX7_isEven 56 = .ok (.istore_n 2, 1) := by decide +kernel
theorem dX7_isEven_57 : decode cX7_isEven 57 = .ok (.iinc 3 1, 3) := by decide +kernel
theorem dX7_isEven_60 : decode cX7_isEven 60 = .ok (.goto (-56), 3) := by decide +kernel
theorem dX7_isEven_63 : decode cX7_isEven 63 = .ok (.iload_n 2, 1) := by decide +kernel
theorem dX7_isEven_64 : decode cX7_isEven 64 = .ok (.ireturn, 1) := by decide +kernel
theorem dX7_noteFirst_0 : decode cX7_noteFirst 0 = .ok (.aload_n 0, 1) := by decide +kernel
theorem dX7_noteFirst_1 : decode cX7_noteFirst 1 = .ok (.iload_n 1, 1) := by decide +kernel
theorem dX7_noteFirst_2 : decode cX7_noteFirst 2 = .ok (.invokevirtual 194, 3) := by decide +kernel
theorem dX7_noteFirst_5 : decode cX7_noteFirst 5 = .ok (.ifCond .eq 17, 3) := by decide +kernel
theorem dX7_noteFirst_8 : decode cX7_noteFirst 8 = .ok (.aload_n 0, 1) := by decide +kernel
theorem dX7_noteFirst_9 : decode cX7_noteFirst 9 = .ok (.getfield 7, 3) := by decide +kernel
theorem dX7_noteFirst_12 : decode cX7_noteFirst 12 = .ok (.sipush 640, 3) := by decide +kernel
theorem dX7_noteFirst_15 : decode cX7_noteFirst 15 = .ok (.iload_n 1, 1) := by decide +kernel
theorem dX7_noteFirst_16 : decode cX7_noteFirst 16 = .ok (.imul, 1) := by decide +kernel
theorem dX7_noteFirst_17 : decode cX7_noteFirst 17 = .ok (.iconst 4, 1) := by decide +kernel
theorem dX7_noteFirst_18 : decode cX7_noteFirst 18 = .ok (.iadd, 1) := by decide +kernel
theorem dX7_noteFirst_19 : decode cX7_noteFirst 19 = .ok (.bipush (-4), 2) := by decide +kernel
theorem dX7_noteFirst_21 : decode cX7_noteFirst 21 = .ok (.iastore, 1) := by decide +kernel
theorem dX7_noteFirst_22 : decode cX7_noteFirst 22 = .ok (.aload_n 0, 1) := by decide +kernel
theorem dX7_noteFirst_23 : decode cX7_noteFirst 23 = .ok (.getfield 7, 3) := by decide +kernel
theorem dX7_noteFirst_26 : decode cX7_noteFirst 26 = .ok (.sipush 640, 3) := by decide +kernel
theorem dX7_noteFirst_29 : decode cX7_noteFirst 29 = .ok (.iload_n 1, 1) := by decide +kernel
theorem dX7_noteFirst_30 : decode cX7_noteFirst 30 = .ok (.imul, 1) := by decide +kernel
theorem dX7_noteFirst_31 : decode cX7_noteFirst 31 = .ok (.iconst 4, 1) := by decide +kernel
theorem dX7_noteFirst_32 : decode cX7_noteFirst 32 = .ok (.iadd, 1) := by decide +kernel
theorem dX7_noteFirst_33 : decode cX7_noteFirst 33 = .ok (.iaload, 1) := by decide +kernel
theorem dX7_noteFirst_34 : decode cX7_noteFirst 34 = .ok (.bipush (-4), 2) := by decide +kernel
theorem dX7_noteFirst_36 : decode cX7_noteFirst 36 = .ok (.if_icmp .ne 15, 3) := by decide +kernel
theorem dX7_noteFirst_39 : decode cX7_noteFirst 39 = .ok (.aload_n 0, 1) := by decide +kernel
theorem dX7_noteFirst_40 : decode cX7_noteFirst 40 = .ok (.iload_n 1, 1) := by decide +kernel
theorem dX7_noteFirst_41 : decode cX7_noteFirst 41 = .ok (.invokevirtual 194, 3) := by decide +kernel
theorem dX7_noteFirst_44 : decode cX7_noteFirst 44 = .ok (.ifCond .ne 7, 3) := by decide +kernel
theorem dX7_noteFirst_47 : decode cX7_noteFirst 47 = .ok (.iconst 1, 1) := by decide +kernel
theorem dX7_noteFirst_48 : decode cX7_noteFirst 48 = .ok (.goto 4, 3) := by decide +kernel
theorem dX7_noteFirst_51 : decode cX7_noteFirst 51 = .ok (.iconst 0, 1) := by decide +kernel
theorem dX7_noteFirst_52 : decode cX7_noteFirst 52 = .ok (.istore_n 2, 1) := by decide +kernel
theorem dX7_noteFirst_53 : decode cX7_noteFirst 53 = .ok (.aload_n 0, 1) := by decide +kernel
theorem dX7_noteFirst_54 : decode cX7_noteFirst 54 = .ok (.getfield 7, 3) := by decide +kernel
theorem dX7_noteFirst_57 : decode cX7_noteFirst 57 = .ok (.sipush 640, 3) := by decide +kernel
theorem dX7_noteFirst_60 : decode cX7_noteFirst 60 = .ok (.iload_n 1, 1) := by decide +kernel
theorem dX7_noteFirst_61 : decode cX7_noteFirst 61 = .ok (.imul, 1) := by decide +kernel
theorem dX7_noteFirst_62 : decode cX7_noteFirst 62 = .ok (.iconst 2, 1) := by decide +kernel
theorem dX7_noteFirst_63 : decode cX7_noteFirst 63 = .ok (.iadd, 1) := by decide +kernel
theorem dX7_noteFirst_64 : decode cX7_noteFirst 64 = .ok (.iaload, 1) := by decide +kernel
theorem dX7_noteFirst_65 : decode cX7_noteFirst 65 = .ok (.iconst 1, 1) := by decide +kernel
theorem dX7_noteFirst_66 : decode cX7_noteFirst 66 = .ok (.isub, 1) := by decide +kernel
theorem dX7_noteFirst_67 : decode cX7_noteFirst 67 = .ok (.istore_n 3, 1) := by decide +kernel
theorem dX7_noteFirst_68 : decode cX7_noteFirst 68 = .ok (.iload_n 3, 1) := by decide +kernel
theorem dX7_noteFirst_69 : decode cX7_noteFirst 69 = .ok (.ifCond .lt 51, 3) := by decide +kernel
theorem dX7_noteFirst_72 : decode cX7_noteFirst 72 = .ok (.aload_n 0, 1) := by decide +kernel
theorem dX7_noteFirst_73 : decode cX7_noteFirst 73 = .ok (.getfield 7, 3) := by decide +kernel
theorem dX7_noteFirst_76 : decode cX7_noteFirst 76 = .ok (.sipush 640, 3) := by decide +kernel
theorem dX7_noteFirst_79 : decode cX7_noteFirst 79 = .ok (.iload_n 1, 1) := by decide +kernel
theorem dX7_noteFirst_80 : decode cX7_noteFirst 80 = .ok (.imul, 1) := by decide +kernel
theorem dX7_noteFirst_81 : decode cX7_noteFirst 81 = .ok (.iconst 4, 1) := by decide +kernel
theorem dX7_noteFirst_82 : decode cX7_noteFirst 82 = .ok (.iadd, 1) := by decide +kernel
theorem dX7_noteFirst_83 : decode cX7_noteFirst 83 = .ok (.iload_n 2, 1) := by decide +kernel
theorem dX7_noteFirst_84 : decode cX7_noteFirst 84 = .ok (.ifCond .eq 17, 3) := by decide +kernel
theorem dX7_noteFirst_87 : decode cX7_noteFirst 87 = .ok (.aload_n 0, 1) := by decide +kernel
theorem dX7_noteFirst_88 : decode cX7_noteFirst 88 = .ok (.iload_n 1, 1) := by decide +kernel
theorem dX7_noteFirst_89 : decode cX7_noteFirst 89 = .ok (.iload_n 3, 1) := by decide +kernel
theorem dX7_noteFirst_90 : decode cX7_noteFirst 90 = .ok (.iconst 2, 1) := by decide +kernel
theorem dX7_noteFirst_91 : decode cX7_noteFirst 91 = .ok (.invokevirtual 57, 3) := by decide +kernel
theorem dX7_noteFirst_94 : decode cX7_noteFirst 94 = .ok (.ifCond .ne 7, 3) := by decide +kernel
theorem dX7_noteFirst_97 : decode cX7_noteFirst 97 = .ok (.iload_n 3, 1) := by decide +kernel
theorem dX7_noteFirst_98 : decode cX7_noteFirst 98 = .ok (.goto 15, 3) := by decide +kernel
theorem dX7_noteFirst_101 : decode cX7_noteFirst 101 = .ok (.aload_n 0, 1) := by decide +kernel
theorem dX7_noteFirst_102 : decode cX7_noteFirst 102 = .ok (.getfield 7, 3) := by decide +kernel
theorem dX7_noteFirst_105 : decode cX7_noteFirst 105 = .ok (.sipush 640, 3) := by decide +kernel
theorem dX7_noteFirst_108 : decode cX7_noteFirst 108 = .ok (.iload_n 1, 1) := by decide +kernel
theorem dX7_noteFirst_109 : decode cX7_noteFirst 109 = .ok (.imul, 1) := by decide +kernel
theorem dX7_noteFirst_110 : decode cX7_noteFirst 110 = .ok (.iconst 4, 1) := by decide +kernel
theorem dX7_noteFirst_111 : decode cX7_noteFirst 111 = .ok (.iadd, 1) := by decide +kernel
theorem dX7_noteFirst_112 : decode cX7_noteFirst 112 = .ok (.iaload, 1) := by decide +kernel
theorem dX7_noteFirst_113 : decode cX7_noteFirst 113 = .ok (.iastore, 1) := by decide +kernel
theorem dX7_noteFirst_114 : decode cX7_noteFirst 114 = .ok (.iinc 3 (-1), 3) := by decide +kernel
theorem dX7_noteFirst_117 : decode cX7_noteFirst 117 = .ok (.goto (-49), 3) := by decide +kernel
theorem dX7_noteFirst_120 : decode cX7_noteFirst 120 = .ok (.return_, 1) := by decide +kernel
theorem dX7_ticks_0 : decode cX7_ticks 0 = .ok (.iload_n 1, 1) := by decide +kernel
theorem dX7_ticks_1 : decode cX7_ticks 1 = .ok (.i2l, 1) := by decide +kernel
theorem dX7_ticks_2 : decode cX7_ticks 2 = .ok (.lconst 1, 1) := by decide +kernel
theorem dX7_ticks_3 : decode cX7_ticks 3 = .ok (.ldc2_w 197, 3) := by decide +kernel
theorem dX7_ticks_6 : decode cX7_ticks 6 = .ok (.invokestatic 53, 3) := by decide +kernel
theorem dX7_ticks_9 : decode cX7_ticks 9 = .ok (.ifCond .ne 5, 3) := by decide +kernel
theorem dX7_ticks_12 : decode cX7_ticks 12 = .ok (.iconst (-1), 1) := by decide +kernel
theorem dX7_ticks_13 : decode cX7_ticks 13 = .ok (.ireturn, 1) := by decide +kernel
theorem dX7_ticks_14 : decode cX7_ticks 14 = .ok (.aload_n 0, 1) := by decide +kernel
theorem dX7_ticks_15 : decode cX7_ticks 15 = .ok (.getfield 7, 3) := by decide +kernel
theorem dX7_ticks_18 : decode cX7_ticks 18 = .ok (.iconst 3, 1) := by decide +kernel
theorem dX7_ticks_19 : decode cX7_ticks 19 = .ok (.iaload, 1) := by decide +kernel
theorem dX7_ticks_20 : decode cX7_ticks 20 = .ok (.iload_n 1, 1) := by decide +kernel
theorem dX7_ticks_21 : decode cX7_ticks 21 = .ok (.iadd, 1) := by decide +kernel
theorem dX7_ticks_22 : decode cX7_ticks 22 = .ok (.ldc 199, 2) := by decide +kernel
theorem dX7_ticks_24 : decode cX7_ticks 24 = .ok (.if_icmp .le 6, 3) := by decide +kernel
theorem dX7_ticks_27 : decode cX7_ticks 27 = .ok (.bipush (-3), 2) := by decide +kernel
theorem dX7_ticks_29 : decode cX7_ticks 29 = .ok (.ireturn, 1) := by decide +kernel
theorem dX7_ticks_30 : decode cX7_ticks 30 = .ok (.iconst 0, 1) := by decide +kernel
theorem dX7_ticks_31 : decode cX7_ticks 31 = .ok (.istore_n 2, 1) := by decide +kernel
theorem dX7_ticks_32 : decode cX7_ticks 32 = .ok (.iload_n 2, 1) := by decide +kernel
theorem dX7_ticks_33 : decode cX7_ticks 33 = .ok (.iload_n 1, 1) := by decide +kernel
theorem dX7_ticks_34 : decode cX7_ticks 34 = .ok (.if_icmp .ge 14, 3) := by decide +kernel
theorem dX7_ticks_37 : decode cX7_ticks 37 = .ok (.aload_n 0, 1) := by decide +kernel
theorem dX7_ticks_38 : decode cX7_ticks 38 = .ok (.iconst 0, 1) := by decide +kernel
theorem dX7_ticks_39 : decode cX7_ticks 39 = .ok (.invokevirtual 200, 3) := by decide +kernel
theorem dX7_ticks_42 : decode cX7_ticks 42 = .ok (.iinc 2 1, 3) := by decide +kernel
theorem dX7_ticks_45 : decode cX7_ticks 45 = .ok (.goto (-13), 3) := by decide +kernel
theorem dX7_ticks_48 : decode cX7_ticks 48 = .ok (.aload_n 0, 1) := by decide +kernel
theorem dX7_ticks_49 : decode cX7_ticks 49 = .ok (.getfield 7, 3) := by decide +kernel
theorem dX7_ticks_52 : decode cX7_ticks 52 = .ok (.iconst 3, 1) := by decide +kernel
theorem dX7_ticks_53 : decode cX7_ticks 53 = .ok (.iaload, 1) := by decide +kernel
theorem dX7_ticks_54 : decode cX7_ticks 54 = .ok (.ireturn, 1) := by decide +kernel
theorem dX7_isSlow_0 : decode cX7_isSlow 0 = .ok (.aload_n 0, 1) := by decide +kernel
theorem dX7_isSlow_1 : decode cX7_isSlow 1 = .ok (.iload_n 1, 1) := by decide +kernel
theorem dX7_isSlow_2 : decode cX7_isSlow 2 = .ok (.iload_n 2, 1) := by decide +kernel
theorem dX7_isSlow_3 : decode cX7_isSlow 3 = .ok (.iconst 2, 1) := by decide +kernel
theorem dX7_isSlow_4 : decode cX7_isSlow 4 = .ok (.invokevirtual 57, 3) := by decide +kernel
theorem dX7_isSlow_7 : decode cX7_isSlow 7 = .ok (.iconst 2, 1) := by decide +kernel
theorem dX7_isSlow_8 : decode cX7_isSlow 8 = .ok (.if_icmp .ge 7, 3) := by decide +kernel
theorem dX7_isSlow_11 : decode cX7_isSlow 11 = .ok (.iconst 1, 1) := by decide +kernel
theorem dX7_isSlow_12 : decode cX7_isSlow 12 = .ok (.goto 4, 3) := by decide +kernel
theorem dX7_isSlow_15 : decode cX7_isSlow 15 = .ok (.iconst 0, 1) := by decide +kernel
theorem dX7_isSlow_16 : decode cX7_isSlow 16 = .ok (.ireturn, 1) := by decide +kernel
theorem dX7_behind_0 : decode cX7_behind 0 = .ok (.iconst 0, 1) := by decide +kernel
theorem dX7_behind_1 : decode cX7_behind 1 = .ok (.istore_n 3, 1) := by decide +kernel
theorem dX7_behind_2 : decode cX7_behind 2 = .ok (.iload_n 3, 1) := by decide +kernel
theorem dX7_behind_3 : decode cX7_behind 3 = .ok (.aload_n 0, 1) := by decide +kernel
theorem dX7_behind_4 : decode cX7_behind 4 = .ok (.getfield 7, 3) := by decide +kernel
theorem dX7_behind_7 : decode cX7_behind 7 = .ok (.sipush 640, 3) := by decide +kernel
theorem dX7_behind_10 : decode cX7_behind 10 = .ok (.iload_n 1, 1) := by decide +kernel
theorem dX7_behind_11 : decode cX7_behind 11 = .ok (.imul, 1) := by decide +kernel
theorem dX7_behind_12 : decode cX7_behind 12 = .ok (.iconst 2, 1) := by decide +kernel
theorem dX7_behind_13 : decode cX7_behind 13 = .ok (.iadd, 1) := by decide +kernel
theorem dX7_behind_14 : decode cX7_behind 14 = .ok (.iaload, 1) := by decide +kernel
theorem dX7_behind_15 : decode cX7_behind 15 = .ok (.if_icmp .ge 38, 3) := by decide +kernel
theorem dX7_behind_18 : decode cX7_behind 18 = .ok (.aload_n 0, 1) := by decide +kernel
theorem dX7_behind_19 : decode cX7_behind 19 = .ok (.iload_n 1, 1) := by decide +kernel
theorem dX7_behind_20 : decode cX7_behind 20 = .ok (.iload_n 3, 1) := by decide +kernel
theorem dX7_behind_21 : decode cX7_behind 21 = .ok (.iconst 1, 1) := by decide +kernel
theorem dX7_behind_22 : decode cX7_behind 22 = .ok (.invokevirtual 57, 3) := by decide +kernel
theorem dX7_behind_25 : decode cX7_behind 25 = .ok (.aload_n 0, 1) := by decide +kernel
theorem dX7_behind_26 : decode cX7_behind 26 = .ok (.iload_n 1, 1) := by decide +kernel
theorem dX7_behind_27 : decode cX7_behind 27 = .ok (.iload_n 2, 1) := by decide +kernel
theorem dX7_behind_28 : decode cX7_behind 28 = .ok (.iconst 1, 1) := by decide +kernel
theorem dX7_behind_29 : decode cX7_behind 29 = .ok (.invokevirtual 57, 3) := by decide +kernel
theorem dX7_behind_32 : decode cX7_behind 32 = .ok (.if_icmp .ne 15, 3) := by decide +kernel
theorem dX7_behind_35 : decode cX7_behind 35 = .ok (.aload_n 0, 1) := by decide +kernel
theorem dX7_behind_36 : decode cX7_behind 36 = .ok (.iload_n 1, 1) := by decide +kernel
theorem dX7_behind_37 : decode cX7_behind 37 = .ok (.iload_n 3, 1) := by decide +kernel
theorem dX7_behind_38 : decode cX7_behind 38 = .ok (.invokevirtual 64, 3) := by decide +kernel
theorem dX7_behind_41 : decode cX7_behind 41 = .ok (.iload_n 2, 1) := by decide +kernel
theorem dX7_behind_42 : decode cX7_behind 42 = .ok (.if_icmp .ne 5, 3) := by decide +kernel
theorem dX7_behind_45 : decode cX7_behind 45 = .ok (.iload_n 3, 1) := by decide +kernel
theorem dX7_behind_46 : decode cX7_behind 46 = .ok (.ireturn, 1) := by decide +kernel
theorem dX7_behind_47 : decode cX7_behind 47 = .ok (.iinc 3 1, 3) := by decide +kernel
theorem dX7_behind_50 : decode cX7_behind 50 = .ok (.goto (-48), 3) := by decide +kernel
theorem dX7_behind_53 : decode cX7_behind 53 = .ok (.iload_n 2, 1) := by decide +kernel
theorem dX7_behind_54 : decode cX7_behind 54 = .ok (.ireturn, 1) := by decide +kernel
theorem dX7_addKnot_0 : decode cX7_addKnot 0 = .ok (.aload_n 0, 1) := by decide +kernel
theorem dX7_addKnot_1 : decode cX7_addKnot 1 = .ok (.getfield 203, 3) := by decide +kernel
theorem dX7_addKnot_4 : decode cX7_addKnot 4 = .ok (.istore 4, 2) := by decide +kernel
theorem dX7_addKnot_6 : decode cX7_addKnot 6 = .ok (.iconst 2, 1) := by decide +kernel
theorem dX7_addKnot_7 : decode cX7_addKnot 7 = .ok (.aload_n 0, 1) := by decide +kernel
theorem dX7_addKnot_8 : decode cX7_addKnot 8 = .ok (.iload_n 1, 1) := by decide +kernel
theorem dX7_addKnot_9 : decode cX7_addKnot 9 = .ok (.iload_n 2, 1) := by decide +kernel
theorem dX7_addKnot_10 : decode cX7_addKnot 10 = .ok (.iconst 0, 1) := by decide +kernel
theorem dX7_addKnot_11 : decode cX7_addKnot 11 = .ok (.invokevirtual 57, 3) := by decide +kernel
theorem dX7_addKnot_14 : decode cX7_addKnot 14 = .ok (.imul, 1) := by decide +kernel
theorem dX7_addKnot_15 : decode cX7_addKnot 15 = .ok (.aload_n 0, 1) := by decide +kernel
theorem dX7_addKnot_16 : decode cX7_addKnot 16 = .ok (.iload_n 1, 1) := by decide +kernel
theorem dX7_addKnot_17 : decode cX7_addKnot 17 = .ok (.iload_n 2, 1) := by decide +kernel
theorem dX7_addKnot_18 : decode cX7_addKnot 18 = .ok (.iconst 1, 1) := by decide +kernel
theorem dX7_addKnot_19 : decode cX7_addKnot 19 = .ok (.invokevirtual 57, 3) := by decide +kernel
theorem dX7_addKnot_22 : decode cX7_addKnot 22 = .ok (.iadd, 1) := by decide +kernel
theorem dX7_addKnot_23 : decode cX7_addKnot 23 = .ok (.istore 5, 2) := by decide +kernel
theorem dX7_addKnot_25 : decode cX7_addKnot 25 = .ok (.iload 4, 2) := by decide +kernel
theorem dX7_addKnot_27 : decode cX7_addKnot 27 = .ok (.ifCond .le 79, 3) := by decide +kernel
theorem dX7_addKnot_30 : decode cX7_addKnot 30 = .ok (.iconst 2, 1) := by decide +kernel
theorem dX7_addKnot_31 : decode cX7_addKnot 31 = .ok (.aload_n 0, 1) := by decide +kernel
theorem dX7_addKnot_32 : decode cX7_addKnot 32 = .ok (.iload_n 1, 1) := by decide +kernel
theorem dX7_addKnot_33 : decode cX7_addKnot 33 = .ok (.aload_n 0, 1) := by decide +kernel
theorem dX7_addKnot_34 : decode cX7_addKnot 34 = .ok (.getfield 47, 3) := by decide +kernel
theorem dX7_addKnot_37 : decode cX7_addKnot 37 = .ok (.iload 4, 2) := by decide +kernel
theorem dX7_addKnot_39 : decode cX7_addKnot 39 = .ok (.iconst 1, 1) := by decide +kernel
theorem dX7_addKnot_40 : decode cX7_addKnot 40 = .ok (.isub, 1) := by decide +kernel
theorem dX7_addKnot_41 : decode cX7_addKnot 41 = .ok (.iaload, 1) := by decide +kernel
theorem dX7_addKnot_42 : decode cX7_addKnot 42 = .ok (.iconst 0, 1) := by decide +kernel
theorem dX7_addKnot_43 : decode cX7_addKnot 43 = .ok (.invokevirtual 57, 3) := by decide +kernel
theorem dX7_addKnot_46 : decode cX7_addKnot 46 = .ok (.imul, 1) := by decide +kernel
theorem dX7_addKnot_47 : decode cX7_addKnot 47 = .ok (.aload_n 0, 1) := by decide +kernel
theorem dX7_addKnot_48 : decode cX7_addKnot 48 = .ok (.iload_n 1, 1) := by decide +kernel
theorem dX7_addKnot_49 : decode cX7_addKnot 49 = .ok (.aload_n 0, 1) := by decide +kernel
theorem dX7_addKnot_50 : decode cX7_addKnot 50 = .ok (.getfield 47, 3) := by decide +kernel
theorem dX7_addKnot_53 : decode cX7_addKnot 53 = .ok (.iload 4, 2) := by decide +kernel
theorem dX7_addKnot_55 : decode cX7_addKnot 55 = .ok (.iconst 1, 1) := by decide +kernel
theorem dX7_addKnot_56 : decode cX7_addKnot 56 = .ok (.isub, 1) := by decide +kernel
theorem dX7_addKnot_57 : decode cX7_addKnot 57 = .ok (.iaload, 1) := by decide +kernel
theorem dX7_addKnot_58 : decode cX7_addKnot 58 = .ok (.iconst 1, 1) := by decide +kernel
theorem dX7_addKnot_59 : decode cX7_addKnot 59 = .ok (.invokevirtual 57, 3) := by decide +kernel
theorem dX7_addKnot_62 : decode cX7_addKnot 62 = .ok (.iadd, 1) := by decide +kernel
theorem dX7_addKnot_63 : decode cX7_addKnot 63 = .ok (.iload 5, 2) := by decide +kernel
theorem dX7_addKnot_65 : decode cX7_addKnot 65 = .ok (.if_icmp .le 41, 3) := by decide +kernel
theorem dX7_addKnot_68 : decode cX7_addKnot 68 = .ok (.aload_n 0, 1) := by decide +kernel
theorem dX7_addKnot_69 : decode cX7_addKnot 69 = .ok (.getfield 47, 3) := by decide +kernel
theorem dX7_addKnot_72 : decode cX7_addKnot 72 = .ok (.iload 4, 2) := by decide +kernel
theorem dX7_addKnot_74 : decode cX7_addKnot 74 = .ok (.aload_n 0, 1) := by decide +kernel
theorem dX7_addKnot_75 : decode cX7_addKnot 75 = .ok (.getfield 47, 3) := by decide +kernel
theorem dX7_addKnot_78 : decode cX7_addKnot 78 = .ok (.iload 4, 2) := by decide +kernel
theorem dX7_addKnot_80 : decode cX7_addKnot 80 = .ok (.iconst 1, 1) := by decide +kernel
theorem dX7_addKnot_81 : decode cX7_addKnot 81 = .ok (.isub, 1) := by decide +kernel
theorem dX7_addKnot_82 : decode cX7_addKnot 82 = .ok (.iaload, 1) := by decide +kernel
theorem dX7_addKnot_83 : decode cX7_addKnot 83 = .ok (.iastore, 1) := by decide +kernel
theorem dX7_addKnot_84 : decode cX7_addKnot 84 = .ok (.aload_n 0, 1) := by decide +kernel
theorem dX7_addKnot_85 : decode cX7_addKnot 85 = .ok (.getfield 50, 3) := by decide +kernel
theorem dX7_addKnot_88 : decode cX7_addKnot 88 = .ok (.iload 4, 2) := by decide +kernel
theorem dX7_addKnot_90 : decode cX7_addKnot 90 = .ok (.aload_n 0, 1) := by decide +kernel
theorem dX7_addKnot_91 : decode cX7_addKnot 91 = .ok (.getfield 50, 3) := by decide +kernel
theorem dX7_addKnot_94 : decode cX7_addKnot 94 = .ok (.iload 4, 2) := by decide +kernel
theorem dX7_addKnot_96 : decode cX7_addKnot 96 = .ok (.iconst 1, 1) := by decide +kernel
theorem dX7_addKnot_97 : decode cX7_addKnot 97 = .ok (.isub, 1) := by decide +kernel
theorem dX7_addKnot_98 : decode cX7_addKnot 98 = .ok (.iaload, 1) := by decide +kernel
theorem dX7_addKnot_99 : decode cX7_addKnot 99 = .ok (.iastore, 1) := by decide +kernel
theorem dX7_addKnot_100 : decode cX7_addKnot 100 = .ok (.iinc 4 (-1), 3) := by decide +kernel
theorem dX7_addKnot_103 : decode cX7_addKnot 103 = .ok (.goto (-78), 3) := by decide +kernel
theorem dX7_addKnot_106 : decode cX7_addKnot 106 = .ok (.aload_n 0, 1) := by decide +kernel
theorem dX7_addKnot_107 : decode cX7_addKnot 107 = .ok (.getfield 47, 3) := by decide +kernel
theorem dX7_addKnot_110 : decode cX7_addKnot 110 = .ok (.iload 4, 2) := by decide +kernel
theorem dX7_addKnot_112 : decode cX7_addKnot 112 = .ok (.iload_n 2, 1) := by decide +kernel
theorem dX7_addKnot_113 : decode cX7_addKnot 113 = .ok (.iastore, 1) := by decide +kernel
theorem dX7_addKnot_114 : decode cX7_addKnot 114 = .ok (.aload_n 0, 1) := by decide +kernel
theorem dX7_addKnot_115 : decode cX7_addKnot 115 = .ok (.getfield 50, 3) := by decide +kernel
theorem dX7_addKnot_118 : decode cX7_addKnot 118 = .ok (.iload 4, 2) := by decide +kernel
theorem dX7_addKnot_120 : decode cX7_addKnot 120 = .ok (.iload_n 3, 1) := by decide +kernel
theorem dX7_addKnot_121 : decode cX7_addKnot 121 = .ok (.iastore, 1) := by decide +kernel
theorem dX7_addKnot_122 : decode cX7_addKnot 122 = .ok (.aload_n 0, 1) := by decide +kernel
theorem dX7_addKnot_123 : decode cX7_addKnot 123 = .ok (.dup, 1) := by decide +kernel
theorem dX7_addKnot_124 : decode cX7_addKnot 124 = .ok (.getfield 203, 3) := by decide +kernel
theorem dX7_addKnot_127 : decode cX7_addKnot 127 = .ok (.iconst 1, 1) := by decide +kernel
theorem dX7_addKnot_128 : decode cX7_addKnot 128 = .ok (.iadd, 1) := by decide +kernel
theorem dX7_addKnot_129 : decode cX7_addKnot 129 = .ok (.putfield 203, 3) := by decide +kernel
theorem dX7_addKnot_132 : decode cX7_addKnot 132 = .ok (.return_, 1) := by decide +kernel
theorem dX7_findKnots_0 : decode cX7_findKnots 0 = .ok (.aload_n 0, 1) := by decide +kernel
theorem dX7_findKnots_1 : decode cX7_findKnots 1 = .ok (.iconst 0, 1) := by decide +kernel
theorem dX7_findKnots_2 : decode cX7_findKnots 2 = .ok (.putfield 203, 3) := by decide +kernel
theorem dX7_findKnots_5 : decode cX7_findKnots 5 = .ok (.iconst 0, 1) := by decide +kernel
theorem dX7_findKnots_6 : decode cX7_findKnots 6 = .ok (.istore_n 2, 1) := by decide +kernel
theorem dX7_findKnots_7 : decode cX7_findKnots 7 = .ok (.iload_n 2, 1) := by decide +kernel
theorem dX7_findKnots_8 : decode cX7_findKnots 8 = .ok (.iconst 2, 1) := by decide +kernel
theorem dX7_findKnots_9 : decode cX7_findKnots 9 = .ok (.if_icmp .ge 224, 3) := by decide +kernel
theorem dX7_findKnots_12 : decode cX7_findKnots 12 = .ok (.iconst 0, 1) := by decide +kernel
theorem dX7_findKnots_13 : decode cX7_findKnots 13 = .ok (.istore_n 3, 1) := by decide +kernel
theorem dX7_findKnots_14 : decode cX7_findKnots 14 = .ok (.iconst 0, 1) := by decide +kernel
theorem dX7_findKnots_15 : decode cX7_findKnots 15 = .ok (.istore 4, 2) := by decide +kernel
theorem dX7_findKnots_17 : decode cX7_findKnots 17 = .ok (.iconst (-1), 1) := by decide +kernel
theorem dX7_findKnots_18 : decode cX7_findKnots 18 = .ok (.istore 5, 2) := by decide +kernel
theorem dX7_findKnots_20 : decode cX7_findKnots 20 = .ok (.aload_n 0, 1) := by decide +kernel
theorem dX7_findKnots_21 : decode cX7_findKnots 21 = .ok (.getfield 7, 3) := by decide +kernel
theorem dX7_findKnots_24 : decode cX7_findKnots 24 = .ok (.sipush 640, 3) := by decide +kernel
theorem dX7_findKnots_27 : decode cX7_findKnots 27 = .ok (.iload_n 1, 1) := by decide +kernel
theorem dX7_findKnots_28 : decode cX7_findKnots 28 = .ok (.imul, 1) := by decide +kernel
theorem dX7_findKnots_29 : decode cX7_findKnots 29 = .ok (.iconst 2, 1) := by decide +kernel
theorem dX7_findKnots_30 : decode cX7_findKnots 30 = .ok (.iadd, 1) := by decide +kernel
theorem dX7_findKnots_31 : decode cX7_findKnots 31 = .ok (.iaload, 1) := by decide +kernel
theorem dX7_findKnots_32 : decode cX7_findKnots 32 = .ok (.iconst 1, 1) := by decide +kernel
theorem dX7_findKnots_33 : decode cX7_findKnots 33 = .ok (.isub, 1) := by decide +kernel
theorem dX7_findKnots_34 : decode cX7_findKnots 34 = .ok (.istore 6, 2) := by decide +kernel
theorem dX7_findKnots_36 : decode cX7_findKnots 36 = .ok (.iload 6, 2) := by decide +kernel
theorem dX7_findKnots_38 : decode cX7_findKnots 38 = .ok (.ifCond .lt 49, 3) := by decide +kernel
theorem dX7_findKnots_41 : decode cX7_findKnots 41 = .ok (.aload_n 0, 1) := by decide +kernel
theorem dX7_findKnots_42 : decode cX7_findKnots 42 = .ok (.iload_n 1, 1) := by decide +kernel
theorem dX7_findKnots_43 : decode cX7_findKnots 43 = .ok (.iload 6, 2) := by decide +kernel
theorem dX7_findKnots_45 : decode cX7_findKnots 45 = .ok (.iconst 1, 1) := by decide +kernel
theorem dX7_findKnots_46 : decode cX7_findKnots 46 = .ok (.invokevirtual 57, 3) := by decide +kernel
theorem dX7_findKnots_49 : decode cX7_findKnots 49 = .ok (.iload_n 2, 1) := by decide +kernel
theorem dX7_findKnots_50 : decode cX7_findKnots 50 = .ok (.if_icmp .ne 31, 3) := by decide +kernel
theorem dX7_findKnots_53 : decode cX7_findKnots 53 = .ok (.iinc 3 1, 3) := by decide +kernel
theorem dX7_findKnots_56 : decode cX7_findKnots 56 = .ok (.aload_n 0, 1) := by decide +kernel
theorem dX7_findKnots_57 : decode cX7_findKnots 57 = .ok (.iload_n 1, 1) := by decide +kernel
theorem dX7_findKnots_58 : decode cX7_findKnots 58 = .ok (.iload 6, 2) := by decide +kernel
theorem dX7_findKnots_60 : decode cX7_findKnots 60 = .ok (.invokevirtual 206, 3) := by decide +kernel
theorem dX7_findKnots_63 : decode cX7_findKnots 63 = .ok (.ifCond .eq 10, 3) := by decide +kernel
theorem dX7_findKnots_66 : decode cX7_findKnots 66 = .ok (.iload 4, 2) := by decide +kernel
theorem dX7_findKnots_68 : decode cX7_findKnots 68 = .ok (.iconst 1, 1) := by decide +kernel
theorem dX7_findKnots_69 : decode cX7_findKnots 69 = .ok (.iadd, 1) := by decide +kernel
theorem dX7_findKnots_70 : decode cX7_findKnots 70 = .ok (.goto 5, 3) := by decide +kernel
theorem dX7_findKnots_73 : decode cX7_findKnots 73 = .ok (.iload 4, 2) := by decide +kernel
theorem dX7_findKnots_75 : decode cX7_findKnots 75 = .ok (.istore 4, 2) := by decide +kernel
theorem dX7_findKnots_77 : decode cX7_findKnots 77 = .ok (.iload 6, 2) := by decide +kernel
theorem dX7_findKnots_79 : decode cX7_findKnots 79 = .ok (.istore 5, 2) := by decide +kernel
theorem dX7_findKnots_81 : decode cX7_findKnots 81 = .ok (.iinc 6 (-1), 3) := by decide +kernel
theorem dX7_findKnots_84 : decode cX7_findKnots 84 = .ok (.goto (-48), 3) := by decide +kernel
theorem dX7_findKnots_87 : decode cX7_findKnots 87 = .ok (.iload 4, 2) := by decide +kernel
theorem dX7_findKnots_89 : decode cX7_findKnots 89 = .ok (.iload_n 3, 1) := by decide +kernel
theorem dX7_findKnots_90 : decode cX7_findKnots 90 = .ok (.if_icmp .ne 16, 3) := by decide +kernel
theorem dX7_findKnots_93 : decode cX7_findKnots 93 = .ok (.iload_n 3, 1) := by decide +kernel
theorem dX7_findKnots_94 : decode cX7_findKnots 94 = .ok (.iconst 1, 1) := by decide +kernel
theorem dX7_findKnots_95 : decode cX7_findKnots 95 = .ok (.if_icmp .le 11, 3) := by decide +kernel
theorem dX7_findKnots_98 : decode cX7_findKnots 98 = .ok (.aload_n 0, 1) := by decide +kernel
theorem dX7_findKnots_99 : decode cX7_findKnots 99 = .ok (.iload_n 1, 1) := by decide +kernel
theorem dX7_findKnots_100 : decode cX7_findKnots 100 = .ok (.iload 5, 2) := by decide +kernel
theorem dX7_findKnots_102 : decode cX7_findKnots 102 = .ok (.iload_n 3, 1) := by decide +kernel
theorem dX7_findKnots_103 : decode cX7_findKnots 103 = .ok (.invokevirtual 209, 3) := by decide +kernel
theorem dX7_findKnots_106 : decode cX7_findKnots 106 = .ok (.iconst 0, 1) := by decide +kernel
theorem dX7_findKnots_107 : decode cX7_findKnots 107 = .ok (.istore 6, 2) := by decide +kernel
theorem dX7_findKnots_109 : decode cX7_findKnots 109 = .ok (.iload 6, 2) := by decide +kernel
theorem dX7_findKnots_111 : decode cX7_findKnots 111 = .ok (.aload_n 0, 1) := by decide +kernel
theorem dX7_findKnots_112 : decode cX7_findKnots 112 = .ok (.getfield 7, 3) := by decide +kernel
theorem dX7_findKnots_115 : decode cX7_findKnots 115 = .ok (.sipush 640, 3) := by decide +kernel
theorem dX7_findKnots_118 : decode cX7_findKnots 118 = .ok (.iload_n 1, 1) := by decide +kernel
theorem dX7_findKnots_119 : decode cX7_findKnots 119 = .ok (.imul, 1) := by decide +kernel
theorem dX7_findKnots_120 : decode cX7_findKnots 120 = .ok (.iconst 2, 1) := by decide +kernel
theorem dX7_findKnots_121 : decode cX7_findKnots 121 = .ok (.iadd, 1) := by decide +kernel
theorem dX7_findKnots_122 : decode cX7_findKnots 122 = .ok (.iaload, 1) := by decide +kernel
theorem dX7_findKnots_123 : decode cX7_findKnots 123 = .ok (.if_icmp .ge 104, 3) := by decide +kernel
theorem dX7_findKnots_126 : decode cX7_findKnots 126 = .ok (.iload 4, 2) := by decide +kernel
theorem dX7_findKnots_128 : decode cX7_findKnots 128 = .ok (.iload_n 3, 1) := by decide +kernel
theorem dX7_findKnots_129 : decode cX7_findKnots 129 = .ok (.if_icmp .ge 98, 3) := by decide +kernel
theorem dX7_findKnots_132 : decode cX7_findKnots 132 = .ok (.aload_n 0, 1) := by decide +kernel
theorem dX7_findKnots_133 : decode cX7_findKnots 133 = .ok (.iload_n 1, 1) := by decide +kernel
theorem dX7_findKnots_134 : decode cX7_findKnots 134 = .ok (.iload 6, 2) := by decide +kernel
theorem dX7_findKnots_136 : decode cX7_findKnots 136 = .ok (.iconst 1, 1) := by decide +kernel
theorem dX7_findKnots_137 : decode cX7_findKnots 137 = .ok (.invokevirtual 57, 3) := by decide +kernel
theorem dX7_findKnots_140 : decode cX7_findKnots 140 = .ok (.iload_n 2, 1) := by decide +kernel
theorem dX7_findKnots_141 : decode cX7_findKnots 141 = .ok (.if_icmp .ne 80, 3) := by decide +kernel
theorem dX7_findKnots_144 : decode cX7_findKnots 144 = .ok (.aload_n 0, 1) := by decide +kernel
theorem dX7_findKnots_145 : decode cX7_findKnots 145 = .ok (.iload_n 1, 1) := by decide +kernel
theorem dX7_findKnots_146 : decode cX7_findKnots 146 = .ok (.iload 6, 2) := by decide +kernel
theorem dX7_findKnots_148 : decode cX7_findKnots 148 = .ok (.invokevirtual 206, 3) := by decide +kernel
theorem dX7_findKnots_151 : decode cX7_findKnots 151 = .ok (.ifCond .eq 70, 3) := by decide +kernel
theorem dX7_findKnots_154 : decode cX7_findKnots 154 = .ok (.aload_n 0, 1) := by decide +kernel
theorem dX7_findKnots_155 : decode cX7_findKnots 155 = .ok (.iload_n 1, 1) := by decide +kernel
theorem dX7_findKnots_156 : decode cX7_findKnots 156 = .ok (.aload_n 0, 1) := by decide +kernel
theorem dX7_findKnots_157 : decode cX7_findKnots 157 = .ok (.iload_n 1, 1) := by decide +kernel
theorem dX7_findKnots_158 : decode cX7_findKnots 158 = .ok (.iload 6, 2) := by decide +kernel
theorem dX7_findKnots_160 : decode cX7_findKnots 160 = .ok (.invokevirtual 64, 3) := by decide +kernel
theorem dX7_findKnots_163 : decode cX7_findKnots 163 = .ok (.invokevirtual 206, 3) := by decide +kernel
theorem dX7_findKnots_166 : decode cX7_findKnots 166 = .ok (.ifCond .ne 55, 3) := by decide +kernel
theorem dX7_findKnots_169 : decode cX7_findKnots 169 = .ok (.iconst 1, 1) := by decide +kernel
theorem dX7_findKnots_170 : decode cX7_findKnots 170 = .ok (.istore 7, 2) := by decide +kernel
theorem dX7_findKnots_172 : decode cX7_findKnots 172 = .ok (.aload_n 0, 1) := by decide +kernel
theorem dX7_findKnots_173 : decode cX7_findKnots 173 = .ok (.iload_n 1, 1) := by decide +kernel
theorem dX7_findKnots_174 : decode cX7_findKnots 174 = .ok (.iload 6, 2) := by decide +kernel
theorem dX7_findKnots_176 : decode cX7_findKnots 176 = .ok (.invokevirtual 212, 3) := by decide +kernel
theorem dX7_findKnots_179 : decode cX7_findKnots 179 = .ok (.istore 8, 2) := by decide +kernel
theorem dX7_findKnots_181 : decode cX7_findKnots 181 = .ok (.aload_n 0, 1) := by decide +kernel
theorem dX7_findKnots_182 : decode cX7_findKnots 182 = .ok (.iload_n 1, 1) := by decide +kernel
theorem dX7_findKnots_183 : decode cX7_findKnots 183 = .ok (.iload 8, 2) := by decide +kernel
theorem dX7_findKnots_185 : decode cX7_findKnots 185 = .ok (.invokevirtual 206, 3) := by decide +kernel
theorem dX7_findKnots_188 : decode cX7_findKnots 188 = .ok (.ifCond .eq 18, 3) := by decide +kernel
theorem dX7_findKnots_191 : decode cX7_findKnots 191 = .ok (.iinc 7 1, 3) := by decide +kernel
theorem dX7_findKnots_194 : decode cX7_findKnots 194 = .ok (.aload_n 0, 1) := by decide +kernel
theorem dX7_findKnots_195 : decode cX7_findKnots 195 = .ok (.iload_n 1, 1) := by decide +kernel
theorem dX7_findKnots_196 : decode cX7_findKnots 196 = .ok (.iload 8, 2) := by decide +kernel
theorem dX7_findKnots_198 : decode cX7_findKnots 198 = .ok (.invokevirtual 212, 3) := by decide +kernel
theorem dX7_findKnots_201 : decode cX7_findKnots 201 = .ok (.istore 8, 2) := by decide +kernel
theorem dX7_findKnots_203 : decode cX7_findKnots 203 = .ok (.goto (-22), 3) := by decide +kernel
theorem dX7_findKnots_206 : decode cX7_findKnots 206 = .ok (.iload 7, 2) := by decide +kernel
theorem dX7_findKnots_208 : decode cX7_findKnots 208 = .ok (.iconst 1, 1) := by decide +kernel
theorem dX7_findKnots_209 : decode cX7_findKnots 209 = .ok (.if_icmp .le 12, 3) := by decide +kernel
theorem dX7_findKnots_212 : decode cX7_findKnots 212 = .ok (.aload_n 0, 1) := by decide +kernel
theorem dX7_findKnots_213 : decode cX7_findKnots 213 = .ok (.iload_n 1, 1) := by decide +kernel
theorem dX7_findKnots_214 : decode cX7_findKnots 214 = .ok (.iload 6, 2) := by decide +kernel
theorem dX7_findKnots_216 : decode cX7_findKnots 216 = .ok (.iload 7, 2) := by decide +kernel
theorem dX7_findKnots_218 : decode cX7_findKnots 218 = .ok (.invokevirtual 209, 3) := by decide +kernel
theorem dX7_findKnots_221 : decode cX7_findKnots 221 = .ok (.iinc 6 1, 3) := by decide +kernel
theorem dX7_findKnots_224 : decode cX7_findKnots 224 = .ok (.goto (-115), 3) := by decide +kernel
theorem dX7_findKnots_227 : decode cX7_findKnots 227 = .ok (.iinc 2 1, 3) := by decide +kernel
theorem dX7_findKnots_230 : decode cX7_findKnots 230 = .ok (.goto (-223), 3) := by decide +kernel
theorem dX7_findKnots_233 : decode cX7_findKnots 233 = .ok (.return_, 1) := by decide +kernel
theorem dX7_count_0 : decode cX7_count 0 = .ok (.iload_n 1, 1) := by decide +kernel
theorem dX7_count_1 : decode cX7_count 1 = .ok (.i2l, 1) := by decide +kernel
theorem dX7_count_2 : decode cX7_count 2 = .ok (.lconst 0, 1) := by decide +kernel
theorem dX7_count_3 : decode cX7_count 3 = .ok (.ldc2_w 72, 3) := by decide +kernel
theorem dX7_count_6 : decode cX7_count 6 = .ok (.invokestatic 53, 3) := by decide +kernel
theorem dX7_count_9 : decode cX7_count 9 = .ok (.ifCond .ne 5, 3) := by decide +kernel
theorem dX7_count_12 : decode cX7_count 12 = .ok (.iconst (-1), 1) := by decide +kernel
theorem dX7_count_13 : decode cX7_count 13 = .ok (.ireturn, 1) := by decide +kernel
theorem dX7_count_14 : decode cX7_count 14 = .ok (.aload_n 0, 1) := by decide +kernel
theorem dX7_count_15 : decode cX7_count 15 = .ok (.iconst 0, 1) := by decide +kernel
theorem dX7_count_16 : decode cX7_count 16 = .ok (.invokevirtual 215, 3) := by decide +kernel
theorem dX7_count_19 : decode cX7_count 19 = .ok (.iconst 0, 1) := by decide +kernel
theorem dX7_count_20 : decode cX7_count 20 = .ok (.istore_n 2, 1) := by decide +kernel
theorem dX7_count_21 : decode cX7_count 21 = .ok (.iconst 0, 1) := by decide +kernel
theorem dX7_count_22 : decode cX7_count 22 = .ok (.istore_n 3, 1) := by decide +kernel
theorem dX7_count_23 : decode cX7_count 23 = .ok (.iload_n 3, 1) := by decide +kernel
theorem dX7_count_24 : decode cX7_count 24 = .ok (.aload_n 0, 1) := by decide +kernel
theorem dX7_count_25 : decode cX7_count 25 = .ok (.getfield 203, 3) := by decide +kernel
theorem dX7_count_28 : decode cX7_count 28 = .ok (.if_icmp .ge 18, 3) := by decide +kernel
theorem dX7_count_31 : decode cX7_count 31 = .ok (.iload_n 2, 1) := by decide +kernel
theorem dX7_count_32 : decode cX7_count 32 = .ok (.aload_n 0, 1) := by decide +kernel
theorem dX7_count_33 : decode cX7_count 33 = .ok (.getfield 50, 3) := by decide +kernel
theorem dX7_count_36 : decode cX7_count 36 = .ok (.iload_n 3, 1) := by decide +kernel
theorem dX7_count_37 : decode cX7_count 37 = .ok (.iaload, 1) := by decide +kernel
theorem dX7_count_38 : decode cX7_count 38 = .ok (.iadd, 1) := by decide +kernel
theorem dX7_count_39 : decode cX7_count 39 = .ok (.istore_n 2, 1) := by decide +kernel
theorem dX7_count_40 : decode cX7_count 40 = .ok (.iinc 3 1, 3) := by decide +kernel
theorem dX7_count_43 : decode cX7_count 43 = .ok (.goto (-20), 3) := by decide +kernel
theorem dX7_count_46 : decode cX7_count 46 = .ok (.iload_n 1, 1) := by decide +kernel
theorem dX7_count_47 : decode cX7_count 47 = .ok (.tableswitch 97 0 8 #[49, 56, 56, 56, 68, 75, 83, 88, 90], 49) := by decide +kernel
theorem dX7_count_96 : decode cX7_count 96 = .ok (.aload_n 0, 1) := by decide +kernel
theorem dX7_count_97 : decode cX7_count 97 = .ok (.getfield 7, 3) := by decide +kernel
theorem dX7_count_100 : decode cX7_count 100 = .ok (.iconst 2, 1) := by decide +kernel
theorem dX7_count_101 : decode cX7_count 101 = .ok (.iaload, 1) := by decide +kernel
theorem dX7_count_102 : decode cX7_count 102 = .ok (.ireturn, 1) := by decide +kernel
theorem dX7_count_103 : decode cX7_count 103 = .ok (.aload_n 0, 1) := by decide +kernel
theorem dX7_count_104 : decode cX7_count 104 = .ok (.getfield 7, 3) := by decide +kernel
theorem dX7_count_107 : decode cX7_count 107 = .ok (.bipush 37, 2) := by decide +kernel
theorem dX7_count_109 : decode cX7_count 109 = .ok (.iload_n 1, 1) := by decide +kernel
theorem dX7_count_110 : decode cX7_count 110 = .ok (.iadd, 1) := by decide +kernel
theorem dX7_count_111 : decode cX7_count 111 = .ok (.iconst 1, 1) := by decide +kernel
theorem dX7_count_112 : decode cX7_count 112 = .ok (.isub, 1) := by decide +kernel
theorem dX7_count_113 : decode cX7_count 113 = .ok (.iaload, 1) := by decide +kernel
theorem dX7_count_114 : decode cX7_count 114 = .ok (.ireturn, 1) := by decide +kernel
theorem dX7_count_115 : decode cX7_count 115 = .ok (.aload_n 0, 1) := by decide +kernel
theorem dX7_count_116 : decode cX7_count 116 = .ok (.getfield 7, 3) := by decide +kernel
theorem dX7_count_119 : decode cX7_count 119 = .ok (.iconst 5, 1) := by decide +kernel
theorem dX7_count_120 : decode cX7_count 120 = .ok (.iaload, 1) := by decide +kernel
theorem dX7_count_121 : decode cX7_count 121 = .ok (.ireturn, 1) := by decide +kernel
theorem dX7_count_122 : decode cX7_count 122 = .ok (.aload_n 0, 1) := by decide +kernel
theorem dX7_count_123 : decode cX7_count 123 = .ok (.getfield 7, 3) := by decide +kernel
theorem dX7_count_126 : decode cX7_count 126 = .ok (.bipush 6, 2) := by decide +kernel
theorem dX7_count_128 : decode cX7_count 128 = .ok (.iaload, 1) := by decide +kernel
theorem dX7_count_129 : decode cX7_count 129 = .ok (.ireturn, 1) := by decide +kernel
theorem dX7_count_130 : decode cX7_count 130 = .ok (.aload_n 0, 1) := by decide +kernel
theorem dX7_count_131 : decode cX7_count 131 = .ok (.getfield 203, 3) := by decide +kernel
theorem dX7_count_134 : decode cX7_count 134 = .ok (.ireturn, 1) := by decide +kernel
theorem dX7_count_135 : decode cX7_count 135 = .ok (.iload_n 2, 1) := by decide +kernel
theorem dX7_count_136 : decode cX7_count 136 = .ok (.ireturn, 1) := by decide +kernel
theorem dX7_count_137 : decode cX7_count 137 = .ok (.aload_n 0, 1) := by decide +kernel
theorem dX7_count_138 : decode cX7_count 138 = .ok (.getfield 7, 3) := by decide +kernel
theorem dX7_count_141 : decode cX7_count 141 = .ok (.iconst 3, 1) := by decide +kernel
theorem dX7_count_142 : decode cX7_count 142 = .ok (.iaload, 1) := by decide +kernel
theorem dX7_count_143 : decode cX7_count 143 = .ok (.ireturn, 1) := by decide +kernel
theorem dX7_count_144 : decode cX7_count 144 = .ok (.aload_n 0, 1) := by decide +kernel
theorem dX7_count_145 : decode cX7_count 145 = .ok (.iconst 0, 1) := by decide +kernel
theorem dX7_count_146 : decode cX7_count 146 = .ok (.invokevirtual 194, 3) := by decide +kernel
theorem dX7_count_149 : decode cX7_count 149 = .ok (.ifCond .eq 7, 3) := by decide +kernel
theorem dX7_count_152 : decode cX7_count 152 = .ok (.iconst 1, 1) := by decide +kernel
theorem dX7_count_153 : decode cX7_count 153 = .ok (.goto 4, 3) := by decide +kernel
theorem dX7_count_156 : decode cX7_count 156 = .ok (.iconst 0, 1) := by decide +kernel
theorem dX7_count_157 : decode cX7_count 157 = .ok (.ireturn, 1) := by decide +kernel
theorem dX7_knot_0 : decode cX7_knot 0 = .ok (.iload_n 1, 1) := by decide +kernel
theorem dX7_knot_1 : decode cX7_knot 1 = .ok (.ifCond .lt 13, 3) := by decide +kernel
theorem dX7_knot_4 : decode cX7_knot 4 = .ok (.iload_n 2, 1) := by decide +kernel
theorem dX7_knot_5 : decode cX7_knot 5 = .ok (.i2l, 1) := by decide +kernel
theorem dX7_knot_6 : decode cX7_knot 6 = .ok (.lconst 0, 1) := by decide +kernel
theorem dX7_knot_7 : decode cX7_knot 7 = .ok (.lconst 1, 1) := by decide +kernel
theorem dX7_knot_8 : decode cX7_knot 8 = .ok (.invokestatic 53, 3) := by decide +kernel
theorem dX7_knot_11 : decode cX7_knot 11 = .ok (.ifCond .ne 5, 3) := by decide +kernel
theorem dX7_knot_14 : decode cX7_knot 14 = .ok (.iconst (-1), 1) := by decide +kernel
theorem dX7_knot_15 : decode cX7_knot 15 = .ok (.ireturn, 1) := by decide +kernel
theorem dX7_knot_16 : decode cX7_knot 16 = .ok (.aload_n 0, 1) := by decide +kernel
theorem dX7_knot_17 : decode cX7_knot 17 = .ok (.iconst 0, 1) := by decide +kernel
theorem dX7_knot_18 : decode cX7_knot 18 = .ok (.invokevirtual 215, 3) := by decide +kernel
theorem dX7_knot_21 : decode cX7_knot 21 = .ok (.iload_n 1, 1) := by decide +kernel
theorem dX7_knot_22 : decode cX7_knot 22 = .ok (.aload_n 0, 1) := by decide +kernel
theorem dX7_knot_23 : decode cX7_knot 23 = .ok (.getfield 203, 3) := by decide +kernel
theorem dX7_knot_26 : decode cX7_knot 26 = .ok (.if_icmp .lt 8, 3) := by decide +kernel
theorem dX7_knot_29 : decode cX7_knot 29 = .ok (.bipush (-4), 2) := by decide +kernel
theorem dX7_knot_31 : decode cX7_knot 31 = .ok (.goto 22, 3) := by decide +kernel
theorem dX7_knot_34 : decode cX7_knot 34 = .ok (.iload_n 2, 1) := by decide +kernel
theorem dX7_knot_35 : decode cX7_knot 35 = .ok (.ifCond .ne 12, 3) := by decide +kernel
theorem dX7_knot_38 : decode cX7_knot 38 = .ok (.aload_n 0, 1) := by decide +kernel
theorem dX7_knot_39 : decode cX7_knot 39 = .ok (.getfield 47, 3) := by decide +kernel
theorem dX7_knot_42 : decode cX7_knot 42 = .ok (.iload_n 1, 1) := by decide +kernel
theorem dX7_knot_43 : decode cX7_knot 43 = .ok (.iaload, 1) := by decide +kernel
theorem dX7_knot_44 : decode cX7_knot 44 = .ok (.goto 9, 3) := by decide +kernel
theorem dX7_knot_47 : decode cX7_knot 47 = .ok (.aload_n 0, 1) := by decide +kernel
theorem dX7_knot_48 : decode cX7_knot 48 = .ok (.getfield 50, 3) := by decide +kernel
theorem dX7_knot_51 : decode cX7_knot 51 = .ok (.iload_n 1, 1) := by decide +kernel
theorem dX7_knot_52 : decode cX7_knot 52 = .ok (.iaload, 1) := by decide +kernel
theorem dX7_knot_53 : decode cX7_knot 53 = .ok (.ireturn, 1) := by decide +kernel
theorem dX7_first_0 : decode cX7_first 0 = .ok (.aload_n 0, 1) := by decide +kernel
theorem dX7_first_1 : decode cX7_first 1 = .ok (.getfield 7, 3) := by decide +kernel
theorem dX7_first_4 : decode cX7_first 4 = .ok (.iconst 4, 1) := by decide +kernel
theorem dX7_first_5 : decode cX7_first 5 = .ok (.iaload, 1) := by decide +kernel
theorem dX7_first_6 : decode cX7_first 6 = .ok (.ireturn, 1) := by decide +kernel
theorem dX7_wentAll_0 : decode cX7_wentAll 0 = .ok (.iconst 0, 1) := by decide +kernel
theorem dX7_wentAll_1 : decode cX7_wentAll 1 = .ok (.istore_n 3, 1) := by decide +kernel
theorem dX7_wentAll_2 : decode cX7_wentAll 2 = .ok (.iconst 0, 1) := by decide +kernel
theorem dX7_wentAll_3 : decode cX7_wentAll 3 = .ok (.istore 4, 2) := by decide +kernel
theorem dX7_wentAll_5 : decode cX7_wentAll 5 = .ok (.iload 4, 2) := by decide +kernel
theorem dX7_wentAll_7 : decode cX7_wentAll 7 = .ok (.aload_n 0, 1) := by decide +kernel
theorem dX7_wentAll_8 : decode cX7_wentAll 8 = .ok (.getfield 7, 3) := by decide +kernel
theorem dX7_wentAll_11 : decode cX7_wentAll 11 = .ok (.sipush 640, 3) := by decide +kernel
theorem dX7_wentAll_14 : decode cX7_wentAll 14 = .ok (.iload_n 1, 1) := by decide +kernel
theorem dX7_wentAll_15 : decode cX7_wentAll 15 = .ok (.imul, 1) := by decide +kernel
theorem dX7_wentAll_16 : decode cX7_wentAll 16 = .ok (.iconst 2, 1) := by decide +kernel
theorem dX7_wentAll_17 : decode cX7_wentAll 17 = .ok (.iadd, 1) := by decide +kernel
theorem dX7_wentAll_18 : decode cX7_wentAll 18 = .ok (.iaload, 1) := by decide +kernel
theorem dX7_wentAll_19 : decode cX7_wentAll 19 = .ok (.if_icmp .ge 34, 3) := by decide +kernel
theorem dX7_wentAll_22 : decode cX7_wentAll 22 = .ok (.iload_n 3, 1) := by decide +kernel
theorem dX7_wentAll_23 : decode cX7_wentAll 23 = .ok (.iload_n 2, 1) := by decide +kernel
theorem dX7_wentAll_24 : decode cX7_wentAll 24 = .ok (.ifCond .lt 9, 3) := by decide +kernel
theorem dX7_wentAll_27 : decode cX7_wentAll 27 = .ok (.iload_n 2, 1) := by decide +kernel
theorem dX7_wentAll_28 : decode cX7_wentAll 28 = .ok (.iload 4, 2) := by decide +kernel
theorem dX7_wentAll_30 : decode cX7_wentAll 30 = .ok (.if_icmp .ne 14, 3) := by decide +kernel
theorem dX7_wentAll_33 : decode cX7_wentAll 33 = .ok (.aload_n 0, 1) := by decide +kernel
theorem dX7_wentAll_34 : decode cX7_wentAll 34 = .ok (.iload_n 1, 1) := by decide +kernel
theorem dX7_wentAll_35 : decode cX7_wentAll 35 = .ok (.iload 4, 2) := by decide +kernel
theorem dX7_wentAll_37 : decode cX7_wentAll 37 = .ok (.iconst 5, 1) := by decide +kernel
theorem dX7_wentAll_38 : decode cX7_wentAll 38 = .ok (.invokevirtual 57, 3) := by decide +kernel
theorem dX7_wentAll_41 : decode cX7_wentAll 41 = .ok (.goto 4, 3) := by decide +kernel
theorem dX7_wentAll_44 : decode cX7_wentAll 44 = .ok (.iconst 0, 1) := by decide +kernel
theorem dX7_wentAll_45 : decode cX7_wentAll 45 = .ok (.iadd, 1) := by decide +kernel
theorem dX7_wentAll_46 : decode cX7_wentAll 46 = .ok (.istore_n 3, 1) := by decide +kernel
theorem dX7_wentAll_47 : decode cX7_wentAll 47 = .ok (.iinc 4 1, 3) := by decide +kernel
theorem dX7_wentAll_50 : decode cX7_wentAll 50 = .ok (.goto (-45), 3) := by decide +kernel
theorem dX7_wentAll_53 : decode cX7_wentAll 53 = .ok (.iload_n 3, 1) := by decide +kernel
theorem dX7_wentAll_54 : decode cX7_wentAll 54 = .ok (.ireturn, 1) := by decide +kernel
theorem dX7_cost_0 : decode cX7_cost 0 = .ok (.aload_n 0, 1) := by decide +kernel
theorem dX7_cost_1 : decode cX7_cost 1 = .ok (.iload_n 1, 1) := by decide +kernel
theorem dX7_cost_2 : decode cX7_cost 2 = .ok (.invokevirtual 84, 3) := by decide +kernel
theorem dX7_cost_5 : decode cX7_cost 5 = .ok (.ifCond .eq 28, 3) := by decide +kernel
theorem dX7_cost_8 : decode cX7_cost 8 = .ok (.iload_n 2, 1) := by decide +kernel
theorem dX7_cost_9 : decode cX7_cost 9 = .ok (.i2l, 1) := by decide +kernel
theorem dX7_cost_10 : decode cX7_cost 10 = .ok (.lconst 1, 1) := by decide +kernel
theorem dX7_cost_11 : decode cX7_cost 11 = .ok (.ldc2_w 197, 3) := by decide +kernel
theorem dX7_cost_14 : decode cX7_cost 14 = .ok (.invokestatic 53, 3) := by decide +kernel
theorem dX7_cost_17 : decode cX7_cost 17 = .ok (.ifCond .eq 16, 3) := by decide +kernel
theorem dX7_cost_20 : decode cX7_cost 20 = .ok (.iload_n 3, 1) := by decide +kernel
theorem dX7_cost_21 : decode cX7_cost 21 = .ok (.iconst (-1), 1) := by decide +kernel
theorem dX7_cost_22 : decode cX7_cost 22 = .ok (.if_icmp .eq 14, 3) := by decide +kernel
theorem dX7_cost_25 : decode cX7_cost 25 = .ok (.aload_n 0, 1) := by decide +kernel
theorem dX7_cost_26 : decode cX7_cost 26 = .ok (.iload_n 3, 1) := by decide +kernel
theorem dX7_cost_27 : decode cX7_cost 27 = .ok (.invokevirtual 84, 3) := by decide +kernel
theorem dX7_cost_30 : decode cX7_cost 30 = .ok (.ifCond .ne 6, 3) := by decide +kernel
theorem dX7_cost_33 : decode cX7_cost 33 = .ok (.ldc 218, 2) := by decide +kernel
theorem dX7_cost_35 : decode cX7_cost 35 = .ok (.ireturn, 1) := by decide +kernel
theorem dX7_cost_36 : decode cX7_cost 36 = .ok (.aload_n 0, 1) := by decide +kernel
theorem dX7_cost_37 : decode cX7_cost 37 = .ok (.iconst 1, 1) := by decide +kernel
theorem dX7_cost_38 : decode cX7_cost 38 = .ok (.iconst 0, 1) := by decide +kernel
theorem dX7_cost_39 : decode cX7_cost 39 = .ok (.invokevirtual 219, 3) := by decide +kernel
theorem dX7_cost_42 : decode cX7_cost 42 = .ok (.aload_n 0, 1) := by decide +kernel
theorem dX7_cost_43 : decode cX7_cost 43 = .ok (.iconst 2, 1) := by decide +kernel
theorem dX7_cost_44 : decode cX7_cost 44 = .ok (.iconst 0, 1) := by decide +kernel
theorem dX7_cost_45 : decode cX7_cost 45 = .ok (.invokevirtual 219, 3) := by decide +kernel
theorem dX7_cost_48 : decode cX7_cost 48 = .ok (.aload_n 0, 1) := by decide +kernel
theorem dX7_cost_49 : decode cX7_cost 49 = .ok (.getfield 7, 3) := by decide +kernel
theorem dX7_cost_52 : decode cX7_cost 52 = .ok (.iconst 1, 1) := by decide +kernel
theorem dX7_cost_53 : decode cX7_cost 53 = .ok (.iload_n 1, 1) := by decide +kernel
theorem dX7_cost_54 : decode cX7_cost 54 = .ok (.bipush 7, 2) := by decide +kernel
theorem dX7_cost_56 : decode cX7_cost 56 = .ok (.invokestatic 74, 3) := by decide +kernel
theorem dX7_cost_59 : decode cX7_cost 59 = .ok (.iconst 1, 1) := by decide +kernel
theorem dX7_cost_60 : decode cX7_cost 60 = .ok (.iastore, 1) := by decide +kernel
theorem dX7_cost_61 : decode cX7_cost 61 = .ok (.aload_n 0, 1) := by decide +kernel
theorem dX7_cost_62 : decode cX7_cost 62 = .ok (.getfield 7, 3) := by decide +kernel
theorem dX7_cost_65 : decode cX7_cost 65 = .ok (.iconst 2, 1) := by decide +kernel
theorem dX7_cost_66 : decode cX7_cost 66 = .ok (.iload_n 1, 1) := by decide +kernel
theorem dX7_cost_67 : decode cX7_cost 67 = .ok (.bipush 7, 2) := by decide +kernel
theorem dX7_cost_69 : decode cX7_cost 69 = .ok (.invokestatic 74, 3) := by decide +kernel
theorem dX7_cost_72 : decode cX7_cost 72 = .ok (.iconst 0, 1) := by decide +kernel
theorem dX7_cost_73 : decode cX7_cost 73 = .ok (.iastore, 1) := by decide +kernel
theorem dX7_cost_74 : decode cX7_cost 74 = .ok (.iconst 0, 1) := by decide +kernel
theorem dX7_cost_75 : decode cX7_cost 75 = .ok (.istore 4, 2) := by decide +kernel
theorem dX7_cost_77 : decode cX7_cost 77 = .ok (.iload 4, 2) := by decide +kernel
theorem dX7_cost_79 : decode cX7_cost 79 = .ok (.iload_n 2, 1) := by decide +kernel
theorem dX7_cost_80 : decode cX7_cost 80 = .ok (.if_icmp .ge 19, 3) := by decide +kernel
theorem dX7_cost_83 : decode cX7_cost 83 = .ok (.aload_n 0, 1) := by decide +kernel
theorem dX7_cost_84 : decode cX7_cost 84 = .ok (.iconst 1, 1) := by decide +kernel
theorem dX7_cost_85 : decode cX7_cost 85 = .ok (.invokevirtual 200, 3) := by decide +kernel
theorem dX7_cost_88 : decode cX7_cost 88 = .ok (.aload_n 0, 1) := by decide +kernel
theorem dX7_cost_89 : decode cX7_cost 89 = .ok (.iconst 2, 1) := by decide +kernel
theorem dX7_cost_90 : decode cX7_cost 90 = .ok (.invokevirtual 200, 3) := by decide +kernel
theorem dX7_cost_93 : decode cX7_cost 93 = .ok (.iinc 4 1, 3) := by decide +kernel
theorem dX7_cost_96 : decode cX7_cost 96 = .ok (.goto (-19), 3) := by decide +kernel
theorem dX7_cost_99 : decode cX7_cost 99 = .ok (.aload_n 0, 1) := by decide +kernel
theorem dX7_cost_100 : decode cX7_cost 100 = .ok (.iconst 2, 1) := by decide +kernel
theorem dX7_cost_101 : decode cX7_cost 101 = .ok (.iload_n 3, 1) := by decide +kernel
theorem dX7_cost_102 : decode cX7_cost 102 = .ok (.invokevirtual 222, 3) := by decide +kernel
theorem dX7_cost_105 : decode cX7_cost 105 = .ok (.aload_n 0, 1) := by decide +kernel
theorem dX7_cost_106 : decode cX7_cost 106 = .ok (.iconst 1, 1) := by decide +kernel
theorem dX7_cost_107 : decode cX7_cost 107 = .ok (.iload_n 3, 1) := by decide +kernel
theorem dX7_cost_108 : decode cX7_cost 108 = .ok (.invokevirtual 222, 3) := by decide +kernel
theorem dX7_cost_111 : decode cX7_cost 111 = .ok (.isub, 1) := by decide +kernel
theorem dX7_cost_112 : decode cX7_cost 112 = .ok (.ireturn, 1) := by decide +kernel
theorem dX7_knotsAfter_0 : decode cX7_knotsAfter 0 = .ok (.aload_n 0, 1) := by decide +kernel
theorem dX7_knotsAfter_1 : decode cX7_knotsAfter 1 = .ok (.iconst 1, 1) := by decide +kernel
theorem dX7_knotsAfter_2 : decode cX7_knotsAfter 2 = .ok (.iconst 0, 1) := by decide +kernel
theorem dX7_knotsAfter_3 : decode cX7_knotsAfter 3 = .ok (.invokevirtual 219, 3) := by decide +kernel
theorem dX7_knotsAfter_6 : decode cX7_knotsAfter 6 = .ok (.iconst 0, 1) := by decide +kernel
theorem dX7_knotsAfter_7 : decode cX7_knotsAfter 7 = .ok (.istore 4, 2) := by decide +kernel
theorem dX7_knotsAfter_9 : decode cX7_knotsAfter 9 = .ok (.iload 4, 2) := by decide +kernel
theorem dX7_knotsAfter_11 : decode cX7_knotsAfter 11 = .ok (.aload_n 0, 1) := by decide +kernel
theorem dX7_knotsAfter_12 : decode cX7_knotsAfter 12 = .ok (.getfield 7, 3) := by decide +kernel
theorem dX7_knotsAfter_15 : decode cX7_knotsAfter 15 = .ok (.iconst 2, 1) := by decide +kernel
theorem dX7_knotsAfter_16 : decode cX7_knotsAfter 16 = .ok (.iaload, 1) := by decide +kernel
theorem dX7_knotsAfter_17 : decode cX7_knotsAfter 17 = .ok (.if_icmp .ge 43, 3) := by decide +kernel
theorem dX7_knotsAfter_20 : decode cX7_knotsAfter 20 = .ok (.aload_n 0, 1) := by decide +kernel
theorem dX7_knotsAfter_21 : decode cX7_knotsAfter 21 = .ok (.getfield 7, 3) := by decide +kernel
theorem dX7_knotsAfter_24 : decode cX7_knotsAfter 24 = .ok (.iconst 1, 1) := by decide +kernel
theorem dX7_knotsAfter_25 : decode cX7_knotsAfter 25 = .ok (.iload 4, 2) := by decide +kernel
theorem dX7_knotsAfter_27 : decode cX7_knotsAfter 27 = .ok (.iconst 3, 1) := by decide +kernel
theorem dX7_knotsAfter_28 : decode cX7_knotsAfter 28 = .ok (.invokestatic 74, 3) := by decide +kernel
theorem dX7_knotsAfter_31 : decode cX7_knotsAfter 31 = .ok (.iload_n 3, 1) := by decide +kernel
theorem dX7_knotsAfter_32 : decode cX7_knotsAfter 32 = .ok (.iload 4, 2) := by decide +kernel
theorem dX7_knotsAfter_34 : decode cX7_knotsAfter 34 = .ok (.ishr, 1) := by decide +kernel
theorem dX7_knotsAfter_35 : decode cX7_knotsAfter 35 = .ok (.iconst 1, 1) := by decide +kernel
theorem dX7_knotsAfter_36 : decode cX7_knotsAfter 36 = .ok (.iand, 1) := by decide +kernel
theorem dX7_knotsAfter_37 : decode cX7_knotsAfter 37 = .ok (.iconst 1, 1) := by decide +kernel
theorem dX7_knotsAfter_38 : decode cX7_knotsAfter 38 = .ok (.if_icmp .ne 7, 3) := by decide +kernel
theorem dX7_knotsAfter_41 : decode cX7_knotsAfter 41 = .ok (.iconst 2, 1) := by decide +kernel
theorem dX7_knotsAfter_42 : decode cX7_knotsAfter 42 = .ok (.goto 11, 3) := by decide +kernel
theorem dX7_knotsAfter_45 : decode cX7_knotsAfter 45 = .ok (.aload_n 0, 1) := by decide +kernel
theorem dX7_knotsAfter_46 : decode cX7_knotsAfter 46 = .ok (.iconst 0, 1) := by decide +kernel
theorem dX7_knotsAfter_47 : decode cX7_knotsAfter 47 = .ok (.iload 4, 2) := by decide +kernel
theorem dX7_knotsAfter_49 : decode cX7_knotsAfter 49 = .ok (.iconst 3, 1) := by decide +kernel
theorem dX7_knotsAfter_50 : decode cX7_knotsAfter 50 = .ok (.invokevirtual 57, 3) := by decide +kernel
theorem dX7_knotsAfter_53 : decode cX7_knotsAfter 53 = .ok (.iastore, 1) := by decide +kernel
theorem dX7_knotsAfter_54 : decode cX7_knotsAfter 54 = .ok (.iinc 4 1, 3) := by decide +kernel
theorem dX7_knotsAfter_57 : decode cX7_knotsAfter 57 = .ok (.goto (-48), 3) := by decide +kernel
theorem dX7_knotsAfter_60 : decode cX7_knotsAfter 60 = .ok (.aload_n 0, 1) := by decide +kernel
theorem dX7_knotsAfter_61 : decode cX7_knotsAfter 61 = .ok (.getfield 7, 3) := by decide +kernel
theorem dX7_knotsAfter_64 : decode cX7_knotsAfter 64 = .ok (.iconst 1, 1) := by decide +kernel
theorem dX7_knotsAfter_65 : decode cX7_knotsAfter 65 = .ok (.iload_n 1, 1) := by decide +kernel
theorem dX7_knotsAfter_66 : decode cX7_knotsAfter 66 = .ok (.bipush 7, 2) := by decide +kernel
theorem dX7_knotsAfter_68 : decode cX7_knotsAfter 68 = .ok (.invokestatic 74, 3) := by decide +kernel
theorem dX7_knotsAfter_71 : decode cX7_knotsAfter 71 = .ok (.iconst 1, 1) := by decide +kernel
theorem dX7_knotsAfter_72 : decode cX7_knotsAfter 72 = .ok (.iastore, 1) := by decide +kernel
theorem dX7_knotsAfter_73 : decode cX7_knotsAfter 73 = .ok (.iconst 0, 1) := by decide +kernel
theorem dX7_knotsAfter_74 : decode cX7_knotsAfter 74 = .ok (.istore 4, 2) := by decide +kernel
theorem dX7_knotsAfter_76 : decode cX7_knotsAfter 76 = .ok (.iload 4, 2) := by decide +kernel
theorem dX7_knotsAfter_78 : decode cX7_knotsAfter 78 = .ok (.iload_n 2, 1) := by decide +kernel
theorem dX7_knotsAfter_79 : decode cX7_knotsAfter 79 = .ok (.if_icmp .ge 14, 3) := by decide +kernel
theorem dX7_knotsAfter_82 : decode cX7_knotsAfter 82 = .ok (.aload_n 0, 1) := by decide +kernel
theorem dX7_knotsAfter_83 : decode cX7_knotsAfter 83 = .ok (.iconst 1, 1) := by decide +kernel
theorem dX7_knotsAfter_84 : decode cX7_knotsAfter 84 = .ok (.invokevirtual 200, 3) := by decide +kernel
theorem dX7_knotsAfter_87 : decode cX7_knotsAfter 87 = .ok (.iinc 4 1, 3) := by decide +kernel
theorem dX7_knotsAfter_90 : decode cX7_knotsAfter 90 = .ok (.goto (-14), 3) := by decide +kernel
theorem dX7_knotsAfter_93 : decode cX7_knotsAfter 93 = .ok (.aload_n 0, 1) := by decide +kernel
theorem dX7_knotsAfter_94 : decode cX7_knotsAfter 94 = .ok (.iconst 1, 1) := by decide +kernel
theorem dX7_knotsAfter_95 : decode cX7_knotsAfter 95 = .ok (.invokevirtual 215, 3) := by decide +kernel
theorem dX7_knotsAfter_98 : decode cX7_knotsAfter 98 = .ok (.aload_n 0, 1) := by decide +kernel
theorem dX7_knotsAfter_99 : decode cX7_knotsAfter 99 = .ok (.getfield 203, 3) := by decide +kernel
theorem dX7_knotsAfter_102 : decode cX7_knotsAfter 102 = .ok (.ireturn, 1) := by decide +kernel
theorem dX7_after_0 : decode cX7_after 0 = .ok (.aload_n 0, 1) := by decide +kernel
theorem dX7_after_1 : decode cX7_after 1 = .ok (.iload_n 1, 1) := by decide +kernel
theorem dX7_after_2 : decode cX7_after 2 = .ok (.invokevirtual 84, 3) := by decide +kernel
theorem dX7_after_5 : decode cX7_after 5 = .ok (.ifCond .eq 25, 3) := by decide +kernel
theorem dX7_after_8 : decode cX7_after 8 = .ok (.iload_n 2, 1) := by decide +kernel
theorem dX7_after_9 : decode cX7_after 9 = .ok (.i2l, 1) := by decide +kernel
theorem dX7_after_10 : decode cX7_after 10 = .ok (.lconst 1, 1) := by decide +kernel
theorem dX7_after_11 : decode cX7_after 11 = .ok (.ldc2_w 197, 3) := by decide +kernel
theorem dX7_after_14 : decode cX7_after 14 = .ok (.invokestatic 53, 3) := by decide +kernel
theorem dX7_after_17 : decode cX7_after 17 = .ok (.ifCond .eq 13, 3) := by decide +kernel
theorem dX7_after_20 : decode cX7_after 20 = .ok (.aload_n 0, 1) := by decide +kernel
theorem dX7_after_21 : decode cX7_after 21 = .ok (.iload_n 1, 1) := by decide +kernel
theorem dX7_after_22 : decode cX7_after 22 = .ok (.iload_n 2, 1) := by decide +kernel
theorem dX7_after_23 : decode cX7_after 23 = .ok (.iconst 0, 1) := by decide +kernel
theorem dX7_after_24 : decode cX7_after 24 = .ok (.invokevirtual 225, 3) := by decide +kernel
theorem dX7_after_27 : decode cX7_after 27 = .ok (.goto 4, 3) := by decide +kernel
theorem dX7_after_30 : decode cX7_after 30 = .ok (.iconst (-1), 1) := by decide +kernel
theorem dX7_after_31 : decode cX7_after 31 = .ok (.ireturn, 1) := by decide +kernel
theorem dX7_bits_0 : decode cX7_bits 0 = .ok (.iconst 0, 1) := by decide +kernel
theorem dX7_bits_1 : decode cX7_bits 1 = .ok (.istore_n 1, 1) := by decide +kernel
theorem dX7_bits_2 : decode cX7_bits 2 = .ok (.iconst 0, 1) := by decide +kernel
theorem dX7_bits_3 : decode cX7_bits 3 = .ok (.istore_n 2, 1) := by decide +kernel
theorem dX7_bits_4 : decode cX7_bits 4 = .ok (.iload_n 2, 1) := by decide +kernel
theorem dX7_bits_5 : decode cX7_bits 5 = .ok (.bipush 8, 2) := by decide +kernel
theorem dX7_bits_7 : decode cX7_bits 7 = .ok (.if_icmp .ge 17, 3) := by decide +kernel
theorem dX7_bits_10 : decode cX7_bits 10 = .ok (.iload_n 1, 1) := by decide +kernel
theorem dX7_bits_11 : decode cX7_bits 11 = .ok (.iload_n 0, 1) := by decide +kernel
theorem dX7_bits_12 : decode cX7_bits 12 = .ok (.iload_n 2, 1) := by decide +kernel
theorem dX7_bits_13 : decode cX7_bits 13 = .ok (.ishr, 1) := by decide +kernel
theorem dX7_bits_14 : decode cX7_bits 14 = .ok (.iconst 1, 1) := by decide +kernel
theorem dX7_bits_15 : decode cX7_bits 15 = .ok (.iand, 1) := by decide +kernel
theorem dX7_bits_16 : decode cX7_bits 16 = .ok (.iadd, 1) := by decide +kernel
theorem dX7_bits_17 : decode cX7_bits 17 = .ok (.istore_n 1, 1) := by decide +kernel
theorem dX7_bits_18 : decode cX7_bits 18 = .ok (.iinc 2 1, 3) := by decide +kernel
theorem dX7_bits_21 : decode cX7_bits 21 = .ok (.goto (-17), 3) := by decide +kernel
theorem dX7_bits_24 : decode cX7_bits 24 = .ok (.iload_n 1, 1) := by decide +kernel
theorem dX7_bits_25 : decode cX7_bits 25 = .ok (.ireturn, 1) := by decide +kernel
theorem dX7_calmed_0 : decode cX7_calmed 0 = .ok (.aload_n 0, 1) := by decide +kernel
theorem dX7_calmed_1 : decode cX7_calmed 1 = .ok (.iload_n 1, 1) := by decide +kernel
theorem dX7_calmed_2 : decode cX7_calmed 2 = .ok (.invokevirtual 84, 3) := by decide +kernel
theorem dX7_calmed_5 : decode cX7_calmed 5 = .ok (.ifCond .eq 15, 3) := by decide +kernel
theorem dX7_calmed_8 : decode cX7_calmed 8 = .ok (.iload_n 2, 1) := by decide +kernel
theorem dX7_calmed_9 : decode cX7_calmed 9 = .ok (.i2l, 1) := by decide +kernel
theorem dX7_calmed_10 : decode cX7_calmed 10 = .ok (.lconst 1, 1) := by decide +kernel
theorem dX7_calmed_11 : decode cX7_calmed 11 = .ok (.ldc2_w 197, 3) := by decide +kernel
theorem dX7_calmed_14 : decode cX7_calmed 14 = .ok (.invokestatic 53, 3) := by decide +kernel
theorem dX7_calmed_17 : decode cX7_calmed 17 = .ok (.ifCond .ne 5, 3) := by decide +kernel
theorem dX7_calmed_20 : decode cX7_calmed 20 = .ok (.iconst (-1), 1) := by decide +kernel
theorem dX7_calmed_21 : decode cX7_calmed 21 = .ok (.ireturn, 1) := by decide +kernel
theorem dX7_calmed_22 : decode cX7_calmed 22 = .ok (.aload_n 0, 1) := by decide +kernel
theorem dX7_calmed_23 : decode cX7_calmed 23 = .ok (.getfield 7, 3) := by decide +kernel
theorem dX7_calmed_26 : decode cX7_calmed 26 = .ok (.iconst 2, 1) := by decide +kernel
theorem dX7_calmed_27 : decode cX7_calmed 27 = .ok (.iaload, 1) := by decide +kernel
theorem dX7_calmed_28 : decode cX7_calmed 28 = .ok (.bipush 8, 2) := by decide +kernel
theorem dX7_calmed_30 : decode cX7_calmed 30 = .ok (.if_icmp .le 6, 3) := by decide +kernel
theorem dX7_calmed_33 : decode cX7_calmed 33 = .ok (.bipush (-2), 2) := by decide +kernel
theorem dX7_calmed_35 : decode cX7_calmed 35 = .ok (.ireturn, 1) := by decide +kernel
theorem dX7_calmed_36 : decode cX7_calmed 36 = .ok (.iconst 0, 1) := by decide +kernel
theorem dX7_calmed_37 : decode cX7_calmed 37 = .ok (.istore_n 3, 1) := by decide +kernel
theorem dX7_calmed_38 : decode cX7_calmed 38 = .ok (.iload_n 3, 1) := by decide +kernel
theorem dX7_calmed_39 : decode cX7_calmed 39 = .ok (.aload_n 0, 1) := by decide +kernel
theorem dX7_calmed_40 : decode cX7_calmed 40 = .ok (.getfield 7, 3) := by decide +kernel
theorem dX7_calmed_43 : decode cX7_calmed 43 = .ok (.iconst 2, 1) := by decide +kernel
theorem dX7_calmed_44 : decode cX7_calmed 44 = .ok (.iaload, 1) := by decide +kernel
theorem dX7_calmed_45 : decode cX7_calmed 45 = .ok (.if_icmp .gt 54, 3) := by decide +kernel
theorem dX7_calmed_48 : decode cX7_calmed 48 = .ok (.iconst 0, 1) := by decide +kernel
theorem dX7_calmed_49 : decode cX7_calmed 49 = .ok (.istore 4, 2) := by decide +kernel
theorem dX7_calmed_51 : decode cX7_calmed 51 = .ok (.iload 4, 2) := by decide +kernel
theorem dX7_calmed_53 : decode cX7_calmed 53 = .ok (.iconst 1, 1) := by decide +kernel
theorem dX7_calmed_54 : decode cX7_calmed 54 = .ok (.aload_n 0, 1) := by decide +kernel
theorem dX7_calmed_55 : decode cX7_calmed 55 = .ok (.getfield 7, 3) := by decide +kernel
theorem dX7_calmed_58 : decode cX7_calmed 58 = .ok (.iconst 2, 1) := by decide +kernel
theorem dX7_calmed_59 : decode cX7_calmed 59 = .ok (.iaload, 1) := by decide +kernel
theorem dX7_calmed_60 : decode cX7_calmed 60 = .ok (.ishl, 1) := by decide +kernel
theorem dX7_calmed_61 : decode cX7_calmed 61 = .ok (.if_icmp .ge 32, 3) := by decide +kernel
theorem dX7_calmed_64 : decode cX7_calmed 64 = .ok (.iload 4, 2) := by decide +kernel
theorem dX7_calmed_66 : decode cX7_calmed 66 = .ok (.invokestatic 228, 3) := by decide +kernel
theorem dX7_calmed_69 : decode cX7_calmed 69 = .ok (.iload_n 3, 1) := by decide +kernel
theorem dX7_calmed_70 : decode cX7_calmed 70 = .ok (.if_icmp .ne 17, 3) := by decide +kernel
theorem dX7_calmed_73 : decode cX7_calmed 73 = .ok (.aload_n 0, 1) := by decide +kernel
theorem dX7_calmed_74 : decode cX7_calmed 74 = .ok (.iload_n 1, 1) := by decide +kernel
theorem dX7_calmed_75 : decode cX7_calmed 75 = .ok (.iload_n 2, 1) := by decide +kernel
theorem dX7_calmed_76 : decode cX7_calmed 76 = .ok (.iload 4, 2) := by decide +kernel
theorem dX7_calmed_78 : decode cX7_calmed 78 = .ok (.invokevirtual 225, 3) := by decide +kernel
theorem dX7_calmed_81 : decode cX7_calmed 81 = .ok (.ifCond .ne 6, 3) := by decide +kernel
theorem dX7_calmed_84 : decode cX7_calmed 84 = .ok (.iload 4, 2) := by decide +kernel
theorem dX7_calmed_86 : decode cX7_calmed 86 = .ok (.ireturn, 1) := by decide +kernel
theorem dX7_calmed_87 : decode cX7_calmed 87 = .ok (.iinc 4 1, 3) := by decide +kernel
theorem dX7_calmed_90 : decode cX7_calmed 90 = .ok (.goto (-39), 3) := by decide +kernel
theorem dX7_calmed_93 : decode cX7_calmed 93 = .ok (.iinc 3 1, 3) := by decide +kernel
theorem dX7_calmed_96 : decode cX7_calmed 96 = .ok (.goto (-58), 3) := by decide +kernel
theorem dX7_calmed_99 : decode cX7_calmed 99 = .ok (.bipush (-4), 2) := by decide +kernel
theorem dX7_calmed_101 : decode cX7_calmed 101 = .ok (.ireturn, 1) := by decide +kernel
theorem dX7_isSame_0 : decode cX7_isSame 0 = .ok (.iconst 0, 1) := by decide +kernel
theorem dX7_isSame_1 : decode cX7_isSame 1 = .ok (.istore_n 1, 1) := by decide +kernel
theorem dX7_isSame_2 : decode cX7_isSame 2 = .ok (.iload_n 1, 1) := by decide +kernel
theorem dX7_isSame_3 : decode cX7_isSame 3 = .ok (.aload_n 0, 1) := by decide +kernel
theorem dX7_isSame_4 : decode cX7_isSame 4 = .ok (.getfield 7, 3) := by decide +kernel
theorem dX7_isSame_7 : decode cX7_isSame 7 = .ok (.iconst 2, 1) := by decide +kernel
theorem dX7_isSame_8 : decode cX7_isSame 8 = .ok (.iaload, 1) := by decide +kernel
theorem dX7_isSame_9 : decode cX7_isSame 9 = .ok (.if_icmp .ge 202, 3) := by decide +kernel
theorem dX7_isSame_12 : decode cX7_isSame 12 = .ok (.aload_n 0, 1) := by decide +kernel
theorem dX7_isSame_13 : decode cX7_isSame 13 = .ok (.iconst 0, 1) := by decide +kernel
theorem dX7_isSame_14 : decode cX7_isSame 14 = .ok (.iload_n 1, 1) := by decide +kernel
theorem dX7_isSame_15 : decode cX7_isSame 15 = .ok (.iconst 0, 1) := by decide +kernel
theorem dX7_isSame_16 : decode cX7_isSame 16 = .ok (.invokevirtual 57, 3) := by decide +kernel
theorem dX7_isSame_19 : decode cX7_isSame 19 = .ok (.aload_n 0, 1) := by decide +kernel
theorem dX7_isSame_20 : decode cX7_isSame 20 = .ok (.iconst 1, 1) := by decide +kernel
theorem dX7_isSame_21 : decode cX7_isSame 21 = .ok (.iload_n 1, 1) := by decide +kernel
theorem dX7_isSame_22 : decode cX7_isSame 22 = .ok (.iconst 0, 1) := by decide +kernel
theorem dX7_isSame_23 : decode cX7_isSame 23 = .ok (.invokevirtual 57, 3) := by decide +kernel
theorem dX7_isSame_26 : decode cX7_isSame 26 = .ok (.if_icmp .ne 41, 3) := by decide +kernel
theorem dX7_isSame_29 : decode cX7_isSame 29 = .ok (.aload_n 0, 1) := by decide +kernel
theorem dX7_isSame_30 : decode cX7_isSame 30 = .ok (.iconst 0, 1) := by decide +kernel
theorem dX7_isSame_31 : decode cX7_isSame 31 = .ok (.iload_n 1, 1) := by decide +kernel
theorem dX7_isSame_32 : decode cX7_isSame 32 = .ok (.iconst 1, 1) := by decide +kernel
theorem dX7_isSame_33 : decode cX7_isSame 33 = .ok (.invokevirtual 57, 3) := by decide +kernel
theorem dX7_isSame_36 : decode cX7_isSame 36 = .ok (.aload_n 0, 1) := by decide +kernel
theorem dX7_isSame_37 : decode cX7_isSame 37 = .ok (.iconst 1, 1) := by decide +kernel
theorem dX7_isSame_38 : decode cX7_isSame 38 = .ok (.iload_n 1, 1) := by decide +kernel
theorem dX7_isSame_39 : decode cX7_isSame 39 = .ok (.iconst 1, 1) := by decide +kernel
theorem dX7_isSame_40 : decode cX7_isSame 40 = .ok (.invokevirtual 57, 3) := by decide +kernel
theorem dX7_isSame_43 : decode cX7_isSame 43 = .ok (.if_icmp .ne 24, 3) := by decide +kernel
theorem dX7_isSame_46 : decode cX7_isSame 46 = .ok (.aload_n 0, 1) := by decide +kernel
theorem dX7_isSame_47 : decode cX7_isSame 47 = .ok (.iconst 0, 1) := by decide +kernel
theorem dX7_isSame_48 : decode cX7_isSame 48 = .ok (.iload_n 1, 1) := by decide +kernel
theorem dX7_isSame_49 : decode cX7_isSame 49 = .ok (.iconst 2, 1) := by decide +kernel
theorem dX7_isSame_50 : decode cX7_isSame 50 = .ok (.invokevirtual 57, 3) := by decide +kernel
theorem dX7_isSame_53 : decode cX7_isSame 53 = .ok (.aload_n 0, 1) := by decide +kernel
theorem dX7_isSame_54 : decode cX7_isSame 54 = .ok (.iconst 1, 1) := by decide +kernel
theorem dX7_isSame_55 : decode cX7_isSame 55 = .ok (.iload_n 1, 1) := by decide +kernel
theorem dX7_isSame_56 : decode cX7_isSame 56 = .ok (.iconst 2, 1) := by decide +kernel
theorem dX7_isSame_57 : decode cX7_isSame 57 = .ok (.invokevirtual 57, 3) := by decide +kernel
theorem dX7_isSame_60 : decode cX7_isSame 60 = .ok (.if_icmp .ne 7, 3) := by decide +kernel
theorem dX7_isSame_63 : decode cX7_isSame 63 = .ok (.iconst 1, 1) := by decide +kernel
theorem dX7_isSame_64 : decode cX7_isSame 64 = .ok (.goto 4, 3) := by decide +kernel
theorem dX7_isSame_67 : decode cX7_isSame 67 = .ok (.iconst 0, 1) := by decide +kernel
theorem dX7_isSame_68 : decode cX7_isSame 68 = .ok (.istore_n 2, 1) := by decide +kernel
theorem dX7_isSame_69 : decode cX7_isSame 69 = .ok (.aload_n 0, 1) := by decide +kernel
theorem dX7_isSame_70 : decode cX7_isSame 70 = .ok (.iconst 0, 1) := by decide +kernel
theorem dX7_isSame_71 : decode cX7_isSame 71 = .ok (.iload_n 1, 1) := by decide +kernel
theorem dX7_isSame_72 : decode cX7_isSame 72 = .ok (.iconst 4, 1) := by decide +kernel
theorem dX7_isSame_73 : decode cX7_isSame 73 = .ok (.invokevirtual 57, 3) := by decide +kernel
theorem dX7_isSame_76 : decode cX7_isSame 76 = .ok (.istore_n 3, 1) := by decide +kernel
theorem dX7_isSame_77 : decode cX7_isSame 77 = .ok (.aload_n 0, 1) := by decide +kernel
theorem dX7_isSame_78 : decode cX7_isSame 78 = .ok (.iconst 0, 1) := by decide +kernel
theorem dX7_isSame_79 : decode cX7_isSame 79 = .ok (.iload_n 1, 1) := by decide +kernel
theorem dX7_isSame_80 : decode cX7_isSame 80 = .ok (.bipush 8, 2) := by decide +kernel
theorem dX7_isSame_82 : decode cX7_isSame 82 = .ok (.invokevirtual 57, 3) := by decide +kernel
theorem dX7_isSame_85 : decode cX7_isSame 85 = .ok (.iload_n 3, 1) := by decide +kernel
theorem dX7_isSame_86 : decode cX7_isSame 86 = .ok (.if_icmp .ge 14, 3) := by decide +kernel
theorem dX7_isSame_89 : decode cX7_isSame 89 = .ok (.aload_n 0, 1) := by decide +kernel
theorem dX7_isSame_90 : decode cX7_isSame 90 = .ok (.iconst 0, 1) := by decide +kernel
theorem dX7_isSame_91 : decode cX7_isSame 91 = .ok (.iload_n 1, 1) := by decide +kernel
theorem dX7_isSame_92 : decode cX7_isSame 92 = .ok (.bipush 8, 2) := by decide +kernel
theorem dX7_isSame_94 : decode cX7_isSame 94 = .ok (.invokevirtual 57, 3) := by decide +kernel
