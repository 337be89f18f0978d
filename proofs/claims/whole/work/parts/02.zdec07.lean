theorem dX7_holds_31 : decode cX7_holds 31 = .ok (.iload_n 1, 1) := by decide +kernel
theorem dX7_holds_32 : decode cX7_holds 32 = .ok (.invokevirtual 95, 3) := by decide +kernel
theorem dX7_holds_35 : decode cX7_holds 35 = .ok (.aload_n 0, 1) := by decide +kernel
theorem dX7_holds_36 : decode cX7_holds 36 = .ok (.iconst 0, 1) := by decide +kernel
theorem dX7_holds_37 : decode cX7_holds 37 = .ok (.iload_n 1, 1) := by decide +kernel
theorem dX7_holds_38 : decode cX7_holds 38 = .ok (.iconst 2, 1) := by decide +kernel
theorem dX7_holds_39 : decode cX7_holds 39 = .ok (.invokevirtual 57, 3) := by decide +kernel
theorem dX7_holds_42 : decode cX7_holds 42 = .ok (.invokevirtual 169, 3) := by decide +kernel
theorem dX7_holds_45 : decode cX7_holds 45 = .ok (.goto 4, 3) := by decide +kernel
theorem dX7_holds_48 : decode cX7_holds 48 = .ok (.iconst (-1), 1) := by decide +kernel
theorem dX7_holds_49 : decode cX7_holds 49 = .ok (.ireturn, 1) := by decide +kernel
theorem dX7_board_0 : decode cX7_board 0 = .ok (.iload_n 1, 1) := by decide +kernel
theorem dX7_board_1 : decode cX7_board 1 = .ok (.i2l, 1) := by decide +kernel
theorem dX7_board_2 : decode cX7_board 2 = .ok (.lconst 0, 1) := by decide +kernel
theorem dX7_board_3 : decode cX7_board 3 = .ok (.aload_n 0, 1) := by decide +kernel
theorem dX7_board_4 : decode cX7_board 4 = .ok (.getfield 7, 3) := by decide +kernel
theorem dX7_board_7 : decode cX7_board 7 = .ok (.iconst 0, 1) := by decide +kernel
theorem dX7_board_8 : decode cX7_board 8 = .ok (.iaload, 1) := by decide +kernel
theorem dX7_board_9 : decode cX7_board 9 = .ok (.iconst 1, 1) := by decide +kernel
theorem dX7_board_10 : decode cX7_board 10 = .ok (.isub, 1) := by decide +kernel
theorem dX7_board_11 : decode cX7_board 11 = .ok (.i2l, 1) := by decide +kernel
theorem dX7_board_12 : decode cX7_board 12 = .ok (.invokestatic 53, 3) := by decide +kernel
theorem dX7_board_15 : decode cX7_board 15 = .ok (.ifCond .eq 33, 3) := by decide +kernel
theorem dX7_board_18 : decode cX7_board 18 = .ok (.iload_n 2, 1) := by decide +kernel
theorem dX7_board_19 : decode cX7_board 19 = .ok (.i2l, 1) := by decide +kernel
theorem dX7_board_20 : decode cX7_board 20 = .ok (.lconst 0, 1) := by decide +kernel
theorem dX7_board_21 : decode cX7_board 21 = .ok (.aload_n 0, 1) := by decide +kernel
theorem dX7_board_22 : decode cX7_board 22 = .ok (.getfield 7, 3) := by decide +kernel
theorem dX7_board_25 : decode cX7_board 25 = .ok (.iconst 0, 1) := by decide +kernel
theorem dX7_board_26 : decode cX7_board 26 = .ok (.iaload, 1) := by decide +kernel
theorem dX7_board_27 : decode cX7_board 27 = .ok (.iconst 1, 1) := by decide +kernel
theorem dX7_board_28 : decode cX7_board 28 = .ok (.isub, 1) := by decide +kernel
theorem dX7_board_29 : decode cX7_board 29 = .ok (.i2l, 1) := by decide +kernel
theorem dX7_board_30 : decode cX7_board 30 = .ok (.invokestatic 53, 3) := by decide +kernel
theorem dX7_board_33 : decode cX7_board 33 = .ok (.ifCond .eq 15, 3) := by decide +kernel
theorem dX7_board_36 : decode cX7_board 36 = .ok (.iload_n 3, 1) := by decide +kernel
theorem dX7_board_37 : decode cX7_board 37 = .ok (.i2l, 1) := by decide +kernel
theorem dX7_board_38 : decode cX7_board 38 = .ok (.lconst 0, 1) := by decide +kernel
theorem dX7_board_39 : decode cX7_board 39 = .ok (.ldc2_w 72, 3) := by decide +kernel
theorem dX7_board_42 : decode cX7_board 42 = .ok (.invokestatic 53, 3) := by decide +kernel
theorem dX7_board_45 : decode cX7_board 45 = .ok (.ifCond .ne 5, 3) := by decide +kernel
theorem dX7_board_48 : decode cX7_board 48 = .ok (.iconst (-1), 1) := by decide +kernel
theorem dX7_board_49 : decode cX7_board 49 = .ok (.ireturn, 1) := by decide +kernel
theorem dX7_board_50 : decode cX7_board 50 = .ok (.aload_n 0, 1) := by decide +kernel
theorem dX7_board_51 : decode cX7_board 51 = .ok (.getfield 7, 3) := by decide +kernel
theorem dX7_board_54 : decode cX7_board 54 = .ok (.iconst 5, 1) := by decide +kernel
theorem dX7_board_55 : decode cX7_board 55 = .ok (.iaload, 1) := by decide +kernel
theorem dX7_board_56 : decode cX7_board 56 = .ok (.iconst 4, 1) := by decide +kernel
theorem dX7_board_57 : decode cX7_board 57 = .ok (.if_icmp .ne 6, 3) := by decide +kernel
theorem dX7_board_60 : decode cX7_board 60 = .ok (.bipush (-3), 2) := by decide +kernel
theorem dX7_board_62 : decode cX7_board 62 = .ok (.ireturn, 1) := by decide +kernel
theorem dX7_board_63 : decode cX7_board 63 = .ok (.bipush 10, 2) := by decide +kernel
theorem dX7_board_65 : decode cX7_board 65 = .ok (.iconst 3, 1) := by decide +kernel
theorem dX7_board_66 : decode cX7_board 66 = .ok (.aload_n 0, 1) := by decide +kernel
theorem dX7_board_67 : decode cX7_board 67 = .ok (.getfield 7, 3) := by decide +kernel
theorem dX7_board_70 : decode cX7_board 70 = .ok (.iconst 5, 1) := by decide +kernel
theorem dX7_board_71 : decode cX7_board 71 = .ok (.iaload, 1) := by decide +kernel
theorem dX7_board_72 : decode cX7_board 72 = .ok (.imul, 1) := by decide +kernel
theorem dX7_board_73 : decode cX7_board 73 = .ok (.iadd, 1) := by decide +kernel
theorem dX7_board_74 : decode cX7_board 74 = .ok (.istore 4, 2) := by decide +kernel
theorem dX7_board_76 : decode cX7_board 76 = .ok (.aload_n 0, 1) := by decide +kernel
theorem dX7_board_77 : decode cX7_board 77 = .ok (.getfield 7, 3) := by decide +kernel
theorem dX7_board_80 : decode cX7_board 80 = .ok (.iload 4, 2) := by decide +kernel
theorem dX7_board_82 : decode cX7_board 82 = .ok (.iload_n 1, 1) := by decide +kernel
theorem dX7_board_83 : decode cX7_board 83 = .ok (.iastore, 1) := by decide +kernel
theorem dX7_board_84 : decode cX7_board 84 = .ok (.aload_n 0, 1) := by decide +kernel
theorem dX7_board_85 : decode cX7_board 85 = .ok (.getfield 7, 3) := by decide +kernel
theorem dX7_board_88 : decode cX7_board 88 = .ok (.iload 4, 2) := by decide +kernel
theorem dX7_board_90 : decode cX7_board 90 = .ok (.iconst 1, 1) := by decide +kernel
theorem dX7_board_91 : decode cX7_board 91 = .ok (.iadd, 1) := by decide +kernel
theorem dX7_board_92 : decode cX7_board 92 = .ok (.iload_n 2, 1) := by decide +kernel
theorem dX7_board_93 : decode cX7_board 93 = .ok (.iastore, 1) := by decide +kernel
theorem dX7_board_94 : decode cX7_board 94 = .ok (.aload_n 0, 1) := by decide +kernel
theorem dX7_board_95 : decode cX7_board 95 = .ok (.getfield 7, 3) := by decide +kernel
theorem dX7_board_98 : decode cX7_board 98 = .ok (.iload 4, 2) := by decide +kernel
theorem dX7_board_100 : decode cX7_board 100 = .ok (.iconst 2, 1) := by decide +kernel
theorem dX7_board_101 : decode cX7_board 101 = .ok (.iadd, 1) := by decide +kernel
theorem dX7_board_102 : decode cX7_board 102 = .ok (.iload_n 3, 1) := by decide +kernel
theorem dX7_board_103 : decode cX7_board 103 = .ok (.iastore, 1) := by decide +kernel
theorem dX7_board_104 : decode cX7_board 104 = .ok (.aload_n 0, 1) := by decide +kernel
theorem dX7_board_105 : decode cX7_board 105 = .ok (.getfield 7, 3) := by decide +kernel
theorem dX7_board_108 : decode cX7_board 108 = .ok (.iconst 5, 1) := by decide +kernel
theorem dX7_board_109 : decode cX7_board 109 = .ok (.dup2, 1) := by decide +kernel
theorem dX7_board_110 : decode cX7_board 110 = .ok (.iaload, 1) := by decide +kernel
theorem dX7_board_111 : decode cX7_board 111 = .ok (.iconst 1, 1) := by decide +kernel
theorem dX7_board_112 : decode cX7_board 112 = .ok (.iadd, 1) := by decide +kernel
theorem dX7_board_113 : decode cX7_board 113 = .ok (.iastore, 1) := by decide +kernel
theorem dX7_board_114 : decode cX7_board 114 = .ok (.aload_n 0, 1) := by decide +kernel
theorem dX7_board_115 : decode cX7_board 115 = .ok (.getfield 7, 3) := by decide +kernel
theorem dX7_board_118 : decode cX7_board 118 = .ok (.iconst 5, 1) := by decide +kernel
theorem dX7_board_119 : decode cX7_board 119 = .ok (.iaload, 1) := by decide +kernel
theorem dX7_board_120 : decode cX7_board 120 = .ok (.iconst 1, 1) := by decide +kernel
theorem dX7_board_121 : decode cX7_board 121 = .ok (.isub, 1) := by decide +kernel
theorem dX7_board_122 : decode cX7_board 122 = .ok (.ireturn, 1) := by decide +kernel
theorem dX7_loop_0 : decode cX7_loop 0 = .ok (.iload_n 1, 1) := by decide +kernel
theorem dX7_loop_1 : decode cX7_loop 1 = .ok (.i2l, 1) := by decide +kernel
theorem dX7_loop_2 : decode cX7_loop 2 = .ok (.lconst 0, 1) := by decide +kernel
theorem dX7_loop_3 : decode cX7_loop 3 = .ok (.aload_n 0, 1) := by decide +kernel
theorem dX7_loop_4 : decode cX7_loop 4 = .ok (.getfield 7, 3) := by decide +kernel
theorem dX7_loop_7 : decode cX7_loop 7 = .ok (.iconst 0, 1) := by decide +kernel
theorem dX7_loop_8 : decode cX7_loop 8 = .ok (.iaload, 1) := by decide +kernel
theorem dX7_loop_9 : decode cX7_loop 9 = .ok (.iconst 1, 1) := by decide +kernel
theorem dX7_loop_10 : decode cX7_loop 10 = .ok (.isub, 1) := by decide +kernel
theorem dX7_loop_11 : decode cX7_loop 11 = .ok (.i2l, 1) := by decide +kernel
theorem dX7_loop_12 : decode cX7_loop 12 = .ok (.invokestatic 53, 3) := by decide +kernel
theorem dX7_loop_15 : decode cX7_loop 15 = .ok (.ifCond .ne 5, 3) := by decide +kernel
theorem dX7_loop_18 : decode cX7_loop 18 = .ok (.iconst (-1), 1) := by decide +kernel
theorem dX7_loop_19 : decode cX7_loop 19 = .ok (.ireturn, 1) := by decide +kernel
theorem dX7_loop_20 : decode cX7_loop 20 = .ok (.aload_n 0, 1) := by decide +kernel
theorem dX7_loop_21 : decode cX7_loop 21 = .ok (.getfield 7, 3) := by decide +kernel
theorem dX7_loop_24 : decode cX7_loop 24 = .ok (.bipush 6, 2) := by decide +kernel
theorem dX7_loop_26 : decode cX7_loop 26 = .ok (.iaload, 1) := by decide +kernel
theorem dX7_loop_27 : decode cX7_loop 27 = .ok (.iconst 4, 1) := by decide +kernel
theorem dX7_loop_28 : decode cX7_loop 28 = .ok (.if_icmp .ne 6, 3) := by decide +kernel
theorem dX7_loop_31 : decode cX7_loop 31 = .ok (.bipush (-3), 2) := by decide +kernel
theorem dX7_loop_33 : decode cX7_loop 33 = .ok (.ireturn, 1) := by decide +kernel
theorem dX7_loop_34 : decode cX7_loop 34 = .ok (.bipush 22, 2) := by decide +kernel
theorem dX7_loop_36 : decode cX7_loop 36 = .ok (.iconst 3, 1) := by decide +kernel
theorem dX7_loop_37 : decode cX7_loop 37 = .ok (.aload_n 0, 1) := by decide +kernel
theorem dX7_loop_38 : decode cX7_loop 38 = .ok (.getfield 7, 3) := by decide +kernel
theorem dX7_loop_41 : decode cX7_loop 41 = .ok (.bipush 6, 2) := by decide +kernel
theorem dX7_loop_43 : decode cX7_loop 43 = .ok (.iaload, 1) := by decide +kernel
theorem dX7_loop_44 : decode cX7_loop 44 = .ok (.imul, 1) := by decide +kernel
theorem dX7_loop_45 : decode cX7_loop 45 = .ok (.iadd, 1) := by decide +kernel
theorem dX7_loop_46 : decode cX7_loop 46 = .ok (.istore_n 2, 1) := by decide +kernel
theorem dX7_loop_47 : decode cX7_loop 47 = .ok (.aload_n 0, 1) := by decide +kernel
theorem dX7_loop_48 : decode cX7_loop 48 = .ok (.getfield 7, 3) := by decide +kernel
theorem dX7_loop_51 : decode cX7_loop 51 = .ok (.iload_n 2, 1) := by decide +kernel
theorem dX7_loop_52 : decode cX7_loop 52 = .ok (.iload_n 1, 1) := by decide +kernel
theorem dX7_loop_53 : decode cX7_loop 53 = .ok (.iastore, 1) := by decide +kernel
theorem dX7_loop_54 : decode cX7_loop 54 = .ok (.aload_n 0, 1) := by decide +kernel
theorem dX7_loop_55 : decode cX7_loop 55 = .ok (.getfield 7, 3) := by decide +kernel
theorem dX7_loop_58 : decode cX7_loop 58 = .ok (.iload_n 2, 1) := by decide +kernel
theorem dX7_loop_59 : decode cX7_loop 59 = .ok (.iconst 1, 1) := by decide +kernel
theorem dX7_loop_60 : decode cX7_loop 60 = .ok (.iadd, 1) := by decide +kernel
theorem dX7_loop_61 : decode cX7_loop 61 = .ok (.iconst 0, 1) := by decide +kernel
theorem dX7_loop_62 : decode cX7_loop 62 = .ok (.iastore, 1) := by decide +kernel
theorem dX7_loop_63 : decode cX7_loop 63 = .ok (.aload_n 0, 1) := by decide +kernel
theorem dX7_loop_64 : decode cX7_loop 64 = .ok (.getfield 7, 3) := by decide +kernel
theorem dX7_loop_67 : decode cX7_loop 67 = .ok (.iload_n 2, 1) := by decide +kernel
theorem dX7_loop_68 : decode cX7_loop 68 = .ok (.iconst 2, 1) := by decide +kernel
theorem dX7_loop_69 : decode cX7_loop 69 = .ok (.iadd, 1) := by decide +kernel
theorem dX7_loop_70 : decode cX7_loop 70 = .ok (.iconst 0, 1) := by decide +kernel
theorem dX7_loop_71 : decode cX7_loop 71 = .ok (.iastore, 1) := by decide +kernel
theorem dX7_loop_72 : decode cX7_loop 72 = .ok (.aload_n 0, 1) := by decide +kernel
theorem dX7_loop_73 : decode cX7_loop 73 = .ok (.getfield 7, 3) := by decide +kernel
theorem dX7_loop_76 : decode cX7_loop 76 = .ok (.bipush 6, 2) := by decide +kernel
theorem dX7_loop_78 : decode cX7_loop 78 = .ok (.dup2, 1) := by decide +kernel
theorem dX7_loop_79 : decode cX7_loop 79 = .ok (.iaload, 1) := by decide +kernel
theorem dX7_loop_80 : decode cX7_loop 80 = .ok (.iconst 1, 1) := by decide +kernel
theorem dX7_loop_81 : decode cX7_loop 81 = .ok (.iadd, 1) := by decide +kernel
theorem dX7_loop_82 : decode cX7_loop 82 = .ok (.iastore, 1) := by decide +kernel
theorem dX7_loop_83 : decode cX7_loop 83 = .ok (.aload_n 0, 1) := by decide +kernel
theorem dX7_loop_84 : decode cX7_loop 84 = .ok (.getfield 7, 3) := by decide +kernel
theorem dX7_loop_87 : decode cX7_loop 87 = .ok (.bipush 6, 2) := by decide +kernel
theorem dX7_loop_89 : decode cX7_loop 89 = .ok (.iaload, 1) := by decide +kernel
theorem dX7_loop_90 : decode cX7_loop 90 = .ok (.iconst 1, 1) := by decide +kernel
theorem dX7_loop_91 : decode cX7_loop 91 = .ok (.isub, 1) := by decide +kernel
theorem dX7_loop_92 : decode cX7_loop 92 = .ok (.ireturn, 1) := by decide +kernel
theorem dX7_looped_0 : decode cX7_looped 0 = .ok (.iload_n 1, 1) := by decide +kernel
theorem dX7_looped_1 : decode cX7_looped 1 = .ok (.i2l, 1) := by decide +kernel
theorem dX7_looped_2 : decode cX7_looped 2 = .ok (.lconst 0, 1) := by decide +kernel
theorem dX7_looped_3 : decode cX7_looped 3 = .ok (.aload_n 0, 1) := by decide +kernel
theorem dX7_looped_4 : decode cX7_looped 4 = .ok (.getfield 7, 3) := by decide +kernel
theorem dX7_looped_7 : decode cX7_looped 7 = .ok (.bipush 6, 2) := by decide +kernel
theorem dX7_looped_9 : decode cX7_looped 9 = .ok (.iaload, 1) := by decide +kernel
theorem dX7_looped_10 : decode cX7_looped 10 = .ok (.iconst 1, 1) := by decide +kernel
theorem dX7_looped_11 : decode cX7_looped 11 = .ok (.isub, 1) := by decide +kernel
theorem dX7_looped_12 : decode cX7_looped 12 = .ok (.i2l, 1) := by decide +kernel
theorem dX7_looped_13 : decode cX7_looped 13 = .ok (.invokestatic 53, 3) := by decide +kernel
theorem dX7_looped_16 : decode cX7_looped 16 = .ok (.ifCond .eq 31, 3) := by decide +kernel
theorem dX7_looped_19 : decode cX7_looped 19 = .ok (.iload_n 2, 1) := by decide +kernel
theorem dX7_looped_20 : decode cX7_looped 20 = .ok (.i2l, 1) := by decide +kernel
theorem dX7_looped_21 : decode cX7_looped 21 = .ok (.lconst 0, 1) := by decide +kernel
theorem dX7_looped_22 : decode cX7_looped 22 = .ok (.lconst 1, 1) := by decide +kernel
theorem dX7_looped_23 : decode cX7_looped 23 = .ok (.invokestatic 53, 3) := by decide +kernel
theorem dX7_looped_26 : decode cX7_looped 26 = .ok (.ifCond .eq 21, 3) := by decide +kernel
theorem dX7_looped_29 : decode cX7_looped 29 = .ok (.aload_n 0, 1) := by decide +kernel
theorem dX7_looped_30 : decode cX7_looped 30 = .ok (.getfield 7, 3) := by decide +kernel
theorem dX7_looped_33 : decode cX7_looped 33 = .ok (.bipush 22, 2) := by decide +kernel
theorem dX7_looped_35 : decode cX7_looped 35 = .ok (.iconst 3, 1) := by decide +kernel
theorem dX7_looped_36 : decode cX7_looped 36 = .ok (.iload_n 1, 1) := by decide +kernel
theorem dX7_looped_37 : decode cX7_looped 37 = .ok (.imul, 1) := by decide +kernel
theorem dX7_looped_38 : decode cX7_looped 38 = .ok (.iadd, 1) := by decide +kernel
theorem dX7_looped_39 : decode cX7_looped 39 = .ok (.iconst 1, 1) := by decide +kernel
theorem dX7_looped_40 : decode cX7_looped 40 = .ok (.iadd, 1) := by decide +kernel
theorem dX7_looped_41 : decode cX7_looped 41 = .ok (.iload_n 2, 1) := by decide +kernel
theorem dX7_looped_42 : decode cX7_looped 42 = .ok (.iadd, 1) := by decide +kernel
theorem dX7_looped_43 : decode cX7_looped 43 = .ok (.iaload, 1) := by decide +kernel
theorem dX7_looped_44 : decode cX7_looped 44 = .ok (.goto 4, 3) := by decide +kernel
theorem dX7_looped_47 : decode cX7_looped 47 = .ok (.iconst (-1), 1) := by decide +kernel
theorem dX7_looped_48 : decode cX7_looped 48 = .ok (.ireturn, 1) := by decide +kernel
theorem dX7_tap_0 : decode cX7_tap 0 = .ok (.aload_n 0, 1) := by decide +kernel
theorem dX7_tap_1 : decode cX7_tap 1 = .ok (.iload_n 1, 1) := by decide +kernel
theorem dX7_tap_2 : decode cX7_tap 2 = .ok (.invokevirtual 84, 3) := by decide +kernel
theorem dX7_tap_5 : decode cX7_tap 5 = .ok (.ifCond .ne 5, 3) := by decide +kernel
theorem dX7_tap_8 : decode cX7_tap 8 = .ok (.iconst (-1), 1) := by decide +kernel
theorem dX7_tap_9 : decode cX7_tap 9 = .ok (.ireturn, 1) := by decide +kernel
theorem dX7_tap_10 : decode cX7_tap 10 = .ok (.aload_n 0, 1) := by decide +kernel
theorem dX7_tap_11 : decode cX7_tap 11 = .ok (.iconst 0, 1) := by decide +kernel
theorem dX7_tap_12 : decode cX7_tap 12 = .ok (.iload_n 1, 1) := by decide +kernel
theorem dX7_tap_13 : decode cX7_tap 13 = .ok (.bipush 7, 2) := by decide +kernel
theorem dX7_tap_15 : decode cX7_tap 15 = .ok (.invokevirtual 57, 3) := by decide +kernel
theorem dX7_tap_18 : decode cX7_tap 18 = .ok (.istore_n 2, 1) := by decide +kernel
theorem dX7_tap_19 : decode cX7_tap 19 = .ok (.aload_n 0, 1) := by decide +kernel
theorem dX7_tap_20 : decode cX7_tap 20 = .ok (.getfield 7, 3) := by decide +kernel
theorem dX7_tap_23 : decode cX7_tap 23 = .ok (.iconst 0, 1) := by decide +kernel
theorem dX7_tap_24 : decode cX7_tap 24 = .ok (.iload_n 1, 1) := by decide +kernel
theorem dX7_tap_25 : decode cX7_tap 25 = .ok (.bipush 7, 2) := by decide +kernel
theorem dX7_tap_27 : decode cX7_tap 27 = .ok (.invokestatic 74, 3) := by decide +kernel
theorem dX7_tap_30 : decode cX7_tap 30 = .ok (.iconst 1, 1) := by decide +kernel
theorem dX7_tap_31 : decode cX7_tap 31 = .ok (.iastore, 1) := by decide +kernel
theorem dX7_tap_32 : decode cX7_tap 32 = .ok (.iload_n 2, 1) := by decide +kernel
theorem dX7_tap_33 : decode cX7_tap 33 = .ok (.ireturn, 1) := by decide +kernel
theorem dX7_note_0 : decode cX7_note 0 = .ok (.iload_n 1, 1) := by decide +kernel
theorem dX7_note_1 : decode cX7_note 1 = .ok (.iload_n 2, 1) := by decide +kernel
theorem dX7_note_2 : decode cX7_note 2 = .ok (.bipush 9, 2) := by decide +kernel
theorem dX7_note_4 : decode cX7_note 4 = .ok (.invokestatic 74, 3) := by decide +kernel
theorem dX7_note_7 : decode cX7_note 7 = .ok (.istore_n 3, 1) := by decide +kernel
theorem dX7_note_8 : decode cX7_note 8 = .ok (.bipush 11, 2) := by decide +kernel
theorem dX7_note_10 : decode cX7_note 10 = .ok (.istore 4, 2) := by decide +kernel
theorem dX7_note_12 : decode cX7_note 12 = .ok (.iload 4, 2) := by decide +kernel
theorem dX7_note_14 : decode cX7_note 14 = .ok (.iconst 3, 1) := by decide +kernel
theorem dX7_note_15 : decode cX7_note 15 = .ok (.if_icmp .lt 29, 3) := by decide +kernel
theorem dX7_note_18 : decode cX7_note 18 = .ok (.aload_n 0, 1) := by decide +kernel
theorem dX7_note_19 : decode cX7_note 19 = .ok (.getfield 7, 3) := by decide +kernel
theorem dX7_note_22 : decode cX7_note 22 = .ok (.iload_n 3, 1) := by decide +kernel
theorem dX7_note_23 : decode cX7_note 23 = .ok (.iload 4, 2) := by decide +kernel
theorem dX7_note_25 : decode cX7_note 25 = .ok (.iadd, 1) := by decide +kernel
theorem dX7_note_26 : decode cX7_note 26 = .ok (.aload_n 0, 1) := by decide +kernel
theorem dX7_note_27 : decode cX7_note 27 = .ok (.getfield 7, 3) := by decide +kernel
theorem dX7_note_30 : decode cX7_note 30 = .ok (.iload_n 3, 1) := by decide +kernel
theorem dX7_note_31 : decode cX7_note 31 = .ok (.iload 4, 2) := by decide +kernel
theorem dX7_note_33 : decode cX7_note 33 = .ok (.iadd, 1) := by decide +kernel
theorem dX7_note_34 : decode cX7_note 34 = .ok (.iconst 3, 1) := by decide +kernel
theorem dX7_note_35 : decode cX7_note 35 = .ok (.isub, 1) := by decide +kernel
theorem dX7_note_36 : decode cX7_note 36 = .ok (.iaload, 1) := by decide +kernel
theorem dX7_note_37 : decode cX7_note 37 = .ok (.iastore, 1) := by decide +kernel
theorem dX7_note_38 : decode cX7_note 38 = .ok (.iinc 4 (-1), 3) := by decide +kernel
theorem dX7_note_41 : decode cX7_note 41 = .ok (.goto (-29), 3) := by decide +kernel
theorem dX7_note_44 : decode cX7_note 44 = .ok (.aload_n 0, 1) := by decide +kernel
theorem dX7_note_45 : decode cX7_note 45 = .ok (.getfield 7, 3) := by decide +kernel
theorem dX7_note_48 : decode cX7_note 48 = .ok (.iload_n 3, 1) := by decide +kernel
theorem dX7_note_49 : decode cX7_note 49 = .ok (.aload_n 0, 1) := by decide +kernel
theorem dX7_note_50 : decode cX7_note 50 = .ok (.iload_n 1, 1) := by decide +kernel
theorem dX7_note_51 : decode cX7_note 51 = .ok (.iload_n 2, 1) := by decide +kernel
theorem dX7_note_52 : decode cX7_note 52 = .ok (.invokevirtual 92, 3) := by decide +kernel
theorem dX7_note_55 : decode cX7_note 55 = .ok (.iastore, 1) := by decide +kernel
theorem dX7_note_56 : decode cX7_note 56 = .ok (.aload_n 0, 1) := by decide +kernel
theorem dX7_note_57 : decode cX7_note 57 = .ok (.getfield 7, 3) := by decide +kernel
theorem dX7_note_60 : decode cX7_note 60 = .ok (.iload_n 3, 1) := by decide +kernel
theorem dX7_note_61 : decode cX7_note 61 = .ok (.iconst 1, 1) := by decide +kernel
theorem dX7_note_62 : decode cX7_note 62 = .ok (.iadd, 1) := by decide +kernel
theorem dX7_note_63 : decode cX7_note 63 = .ok (.aload_n 0, 1) := by decide +kernel
theorem dX7_note_64 : decode cX7_note 64 = .ok (.iload_n 1, 1) := by decide +kernel
theorem dX7_note_65 : decode cX7_note 65 = .ok (.iload_n 2, 1) := by decide +kernel
theorem dX7_note_66 : decode cX7_note 66 = .ok (.invokevirtual 166, 3) := by decide +kernel
theorem dX7_note_69 : decode cX7_note 69 = .ok (.iastore, 1) := by decide +kernel
theorem dX7_note_70 : decode cX7_note 70 = .ok (.aload_n 0, 1) := by decide +kernel
theorem dX7_note_71 : decode cX7_note 71 = .ok (.getfield 7, 3) := by decide +kernel
theorem dX7_note_74 : decode cX7_note 74 = .ok (.iload_n 3, 1) := by decide +kernel
theorem dX7_note_75 : decode cX7_note 75 = .ok (.iconst 2, 1) := by decide +kernel
theorem dX7_note_76 : decode cX7_note 76 = .ok (.iadd, 1) := by decide +kernel
theorem dX7_note_77 : decode cX7_note 77 = .ok (.aload_n 0, 1) := by decide +kernel
theorem dX7_note_78 : decode cX7_note 78 = .ok (.iload_n 1, 1) := by decide +kernel
theorem dX7_note_79 : decode cX7_note 79 = .ok (.iload_n 2, 1) := by decide +kernel
theorem dX7_note_80 : decode cX7_note 80 = .ok (.invokevirtual 95, 3) := by decide +kernel
theorem dX7_note_83 : decode cX7_note 83 = .ok (.iastore, 1) := by decide +kernel
theorem dX7_note_84 : decode cX7_note 84 = .ok (.aload_n 0, 1) := by decide +kernel
theorem dX7_note_85 : decode cX7_note 85 = .ok (.getfield 7, 3) := by decide +kernel
theorem dX7_note_88 : decode cX7_note 88 = .ok (.iload_n 1, 1) := by decide +kernel
theorem dX7_note_89 : decode cX7_note 89 = .ok (.iload_n 2, 1) := by decide +kernel
theorem dX7_note_90 : decode cX7_note 90 = .ok (.bipush 8, 2) := by decide +kernel
theorem dX7_note_92 : decode cX7_note 92 = .ok (.invokestatic 74, 3) := by decide +kernel
theorem dX7_note_95 : decode cX7_note 95 = .ok (.dup2, 1) := by decide +kernel
theorem dX7_note_96 : decode cX7_note 96 = .ok (.iaload, 1) := by decide +kernel
theorem dX7_note_97 : decode cX7_note 97 = .ok (.iconst 1, 1) := by decide +kernel
theorem dX7_note_98 : decode cX7_note 98 = .ok (.iadd, 1) := by decide +kernel
theorem dX7_note_99 : decode cX7_note 99 = .ok (.iastore, 1) := by decide +kernel
theorem dX7_note_100 : decode cX7_note 100 = .ok (.return_, 1) := by decide +kernel
theorem dX7_decide_0 : decode cX7_decide 0 = .ok (.aload_n 0, 1) := by decide +kernel
theorem dX7_decide_1 : decode cX7_decide 1 = .ok (.iload_n 1, 1) := by decide +kernel
theorem dX7_decide_2 : decode cX7_decide 2 = .ok (.iload_n 2, 1) := by decide +kernel
theorem dX7_decide_3 : decode cX7_decide 3 = .ok (.bipush 8, 2) := by decide +kernel
theorem dX7_decide_5 : decode cX7_decide 5 = .ok (.invokevirtual 57, 3) := by decide +kernel
theorem dX7_decide_8 : decode cX7_decide 8 = .ok (.istore_n 3, 1) := by decide +kernel
theorem dX7_decide_9 : decode cX7_decide 9 = .ok (.aload_n 0, 1) := by decide +kernel
theorem dX7_decide_10 : decode cX7_decide 10 = .ok (.iload_n 1, 1) := by decide +kernel
theorem dX7_decide_11 : decode cX7_decide 11 = .ok (.iload_n 2, 1) := by decide +kernel
theorem dX7_decide_12 : decode cX7_decide 12 = .ok (.iconst 4, 1) := by decide +kernel
theorem dX7_decide_13 : decode cX7_decide 13 = .ok (.invokevirtual 57, 3) := by decide +kernel
theorem dX7_decide_16 : decode cX7_decide 16 = .ok (.istore 4, 2) := by decide +kernel
theorem dX7_decide_18 : decode cX7_decide 18 = .ok (.iload_n 1, 1) := by decide +kernel
theorem dX7_decide_19 : decode cX7_decide 19 = .ok (.iload_n 2, 1) := by decide +kernel
theorem dX7_decide_20 : decode cX7_decide 20 = .ok (.bipush 9, 2) := by decide +kernel
theorem dX7_decide_22 : decode cX7_decide 22 = .ok (.invokestatic 74, 3) := by decide +kernel
theorem dX7_decide_25 : decode cX7_decide 25 = .ok (.iconst 3, 1) := by decide +kernel
theorem dX7_decide_26 : decode cX7_decide 26 = .ok (.iload 4, 2) := by decide +kernel
theorem dX7_decide_28 : decode cX7_decide 28 = .ok (.iload_n 3, 1) := by decide +kernel
theorem dX7_decide_29 : decode cX7_decide 29 = .ok (.if_icmp .ge 8, 3) := by decide +kernel
theorem dX7_decide_32 : decode cX7_decide 32 = .ok (.iload 4, 2) := by decide +kernel
theorem dX7_decide_34 : decode cX7_decide 34 = .ok (.goto 6, 3) := by decide +kernel
theorem dX7_decide_37 : decode cX7_decide 37 = .ok (.iload_n 3, 1) := by decide +kernel
theorem dX7_decide_38 : decode cX7_decide 38 = .ok (.iconst 1, 1) := by decide +kernel
theorem dX7_decide_39 : decode cX7_decide 39 = .ok (.isub, 1) := by decide +kernel
theorem dX7_decide_40 : decode cX7_decide 40 = .ok (.imul, 1) := by decide +kernel
theorem dX7_decide_41 : decode cX7_decide 41 = .ok (.iadd, 1) := by decide +kernel
theorem dX7_decide_42 : decode cX7_decide 42 = .ok (.istore 5, 2) := by decide +kernel
theorem dX7_decide_44 : decode cX7_decide 44 = .ok (.aload_n 0, 1) := by decide +kernel
theorem dX7_decide_45 : decode cX7_decide 45 = .ok (.iload_n 1, 1) := by decide +kernel
theorem dX7_decide_46 : decode cX7_decide 46 = .ok (.aload_n 0, 1) := by decide +kernel
theorem dX7_decide_47 : decode cX7_decide 47 = .ok (.iload_n 1, 1) := by decide +kernel
theorem dX7_decide_48 : decode cX7_decide 48 = .ok (.iload_n 2, 1) := by decide +kernel
theorem dX7_decide_49 : decode cX7_decide 49 = .ok (.iconst 3, 1) := by decide +kernel
theorem dX7_decide_50 : decode cX7_decide 50 = .ok (.invokevirtual 57, 3) := by decide +kernel
theorem dX7_decide_53 : decode cX7_decide 53 = .ok (.aload_n 0, 1) := by decide +kernel
theorem dX7_decide_54 : decode cX7_decide 54 = .ok (.getfield 7, 3) := by decide +kernel
theorem dX7_decide_57 : decode cX7_decide 57 = .ok (.iload 5, 2) := by decide +kernel
theorem dX7_decide_59 : decode cX7_decide 59 = .ok (.iaload, 1) := by decide +kernel
theorem dX7_decide_60 : decode cX7_decide 60 = .ok (.aload_n 0, 1) := by decide +kernel
theorem dX7_decide_61 : decode cX7_decide 61 = .ok (.getfield 7, 3) := by decide +kernel
theorem dX7_decide_64 : decode cX7_decide 64 = .ok (.iload 5, 2) := by decide +kernel
theorem dX7_decide_66 : decode cX7_decide 66 = .ok (.iconst 1, 1) := by decide +kernel
theorem dX7_decide_67 : decode cX7_decide 67 = .ok (.iadd, 1) := by decide +kernel
theorem dX7_decide_68 : decode cX7_decide 68 = .ok (.iaload, 1) := by decide +kernel
theorem dX7_decide_69 : decode cX7_decide 69 = .ok (.aload_n 0, 1) := by decide +kernel
theorem dX7_decide_70 : decode cX7_decide 70 = .ok (.getfield 7, 3) := by decide +kernel
theorem dX7_decide_73 : decode cX7_decide 73 = .ok (.iload 5, 2) := by decide +kernel
theorem dX7_decide_75 : decode cX7_decide 75 = .ok (.iconst 2, 1) := by decide +kernel
theorem dX7_decide_76 : decode cX7_decide 76 = .ok (.iadd, 1) := by decide +kernel
theorem dX7_decide_77 : decode cX7_decide 77 = .ok (.iaload, 1) := by decide +kernel
theorem dX7_decide_78 : decode cX7_decide 78 = .ok (.aload_n 0, 1) := by decide +kernel
theorem dX7_decide_79 : decode cX7_decide 79 = .ok (.iload_n 1, 1) := by decide +kernel
theorem dX7_decide_80 : decode cX7_decide 80 = .ok (.iload_n 2, 1) := by decide +kernel
theorem dX7_decide_81 : decode cX7_decide 81 = .ok (.iconst 2, 1) := by decide +kernel
theorem dX7_decide_82 : decode cX7_decide 82 = .ok (.invokevirtual 57, 3) := by decide +kernel
theorem dX7_decide_85 : decode cX7_decide 85 = .ok (.invokevirtual 169, 3) := by decide +kernel
theorem dX7_decide_88 : decode cX7_decide 88 = .ok (.pop, 1) := by decide +kernel
theorem dX7_decide_89 : decode cX7_decide 89 = .ok (.aload_n 0, 1) := by decide +kernel
theorem dX7_decide_90 : decode cX7_decide 90 = .ok (.getfield 32, 3) := by decide +kernel
theorem dX7_decide_93 : decode cX7_decide 93 = .ok (.iload_n 2, 1) := by decide +kernel
theorem dX7_decide_94 : decode cX7_decide 94 = .ok (.aload_n 0, 1) := by decide +kernel
theorem dX7_decide_95 : decode cX7_decide 95 = .ok (.getfield 156, 3) := by decide +kernel
theorem dX7_decide_98 : decode cX7_decide 98 = .ok (.iastore, 1) := by decide +kernel
theorem dX7_decide_99 : decode cX7_decide 99 = .ok (.aload_n 0, 1) := by decide +kernel
theorem dX7_decide_100 : decode cX7_decide 100 = .ok (.getfield 35, 3) := by decide +kernel
theorem dX7_decide_103 : decode cX7_decide 103 = .ok (.iload_n 2, 1) := by decide +kernel
theorem dX7_decide_104 : decode cX7_decide 104 = .ok (.aload_n 0, 1) := by decide +kernel
theorem dX7_decide_105 : decode cX7_decide 105 = .ok (.getfield 159, 3) := by decide +kernel
theorem dX7_decide_108 : decode cX7_decide 108 = .ok (.bastore, 1) := by decide +kernel
theorem dX7_decide_109 : decode cX7_decide 109 = .ok (.return_, 1) := by decide +kernel
theorem dX7_hasRoom_0 : decode cX7_hasRoom 0 = .ok (.sipush 1000, 3) := by decide +kernel
theorem dX7_hasRoom_3 : decode cX7_hasRoom 3 = .ok (.istore_n 3, 1) := by decide +kernel
theorem dX7_hasRoom_4 : decode cX7_hasRoom 4 = .ok (.iconst (-1), 1) := by decide +kernel
theorem dX7_hasRoom_5 : decode cX7_hasRoom 5 = .ok (.istore 4, 2) := by decide +kernel
theorem dX7_hasRoom_7 : decode cX7_hasRoom 7 = .ok (.iconst 0, 1) := by decide +kernel
theorem dX7_hasRoom_8 : decode cX7_hasRoom 8 = .ok (.istore 5, 2) := by decide +kernel
theorem dX7_hasRoom_10 : decode cX7_hasRoom 10 = .ok (.iload 5, 2) := by decide +kernel
theorem dX7_hasRoom_12 : decode cX7_hasRoom 12 = .ok (.aload_n 0, 1) := by decide +kernel
theorem dX7_hasRoom_13 : decode cX7_hasRoom 13 = .ok (.getfield 7, 3) := by decide +kernel
theorem dX7_hasRoom_16 : decode cX7_hasRoom 16 = .ok (.sipush 640, 3) := by decide +kernel
theorem dX7_hasRoom_19 : decode cX7_hasRoom 19 = .ok (.iload_n 1, 1) := by decide +kernel
theorem dX7_hasRoom_20 : decode cX7_hasRoom 20 = .ok (.imul, 1) := by decide +kernel
theorem dX7_hasRoom_21 : decode cX7_hasRoom 21 = .ok (.iconst 2, 1) := by decide +kernel
theorem dX7_hasRoom_22 : decode cX7_hasRoom 22 = .ok (.iadd, 1) := by decide +kernel
theorem dX7_hasRoom_23 : decode cX7_hasRoom 23 = .ok (.iaload, 1) := by decide +kernel
theorem dX7_hasRoom_24 : decode cX7_hasRoom 24 = .ok (.if_icmp .ge 62, 3) := by decide +kernel
theorem dX7_hasRoom_27 : decode cX7_hasRoom 27 = .ok (.aload_n 0, 1) := by decide +kernel
theorem dX7_hasRoom_28 : decode cX7_hasRoom 28 = .ok (.iload_n 1, 1) := by decide +kernel
theorem dX7_hasRoom_29 : decode cX7_hasRoom 29 = .ok (.aload_n 0, 1) := by decide +kernel
theorem dX7_hasRoom_30 : decode cX7_hasRoom 30 = .ok (.iload_n 1, 1) := by decide +kernel
theorem dX7_hasRoom_31 : decode cX7_hasRoom 31 = .ok (.iload 5, 2) := by decide +kernel
theorem dX7_hasRoom_33 : decode cX7_hasRoom 33 = .ok (.iconst 0, 1) := by decide +kernel
theorem dX7_hasRoom_34 : decode cX7_hasRoom 34 = .ok (.invokevirtual 57, 3) := by decide +kernel
theorem dX7_hasRoom_37 : decode cX7_hasRoom 37 = .ok (.aload_n 0, 1) := by decide +kernel
theorem dX7_hasRoom_38 : decode cX7_hasRoom 38 = .ok (.iload_n 1, 1) := by decide +kernel
theorem dX7_hasRoom_39 : decode cX7_hasRoom 39 = .ok (.iload_n 2, 1) := by decide +kernel
theorem dX7_hasRoom_40 : decode cX7_hasRoom 40 = .ok (.iconst 0, 1) := by decide +kernel
theorem dX7_hasRoom_41 : decode cX7_hasRoom 41 = .ok (.invokevirtual 57, 3) := by decide +kernel
theorem dX7_hasRoom_44 : decode cX7_hasRoom 44 = .ok (.invokevirtual 61, 3) := by decide +kernel
theorem dX7_hasRoom_47 : decode cX7_hasRoom 47 = .ok (.istore 6, 2) := by decide +kernel
theorem dX7_hasRoom_49 : decode cX7_hasRoom 49 = .ok (.aload_n 0, 1) := by decide +kernel
theorem dX7_hasRoom_50 : decode cX7_hasRoom 50 = .ok (.iload_n 1, 1) := by decide +kernel
theorem dX7_hasRoom_51 : decode cX7_hasRoom 51 = .ok (.iload 5, 2) := by decide +kernel
theorem dX7_hasRoom_53 : decode cX7_hasRoom 53 = .ok (.iconst 1, 1) := by decide +kernel
theorem dX7_hasRoom_54 : decode cX7_hasRoom 54 = .ok (.invokevirtual 57, 3) := by decide +kernel
theorem dX7_hasRoom_57 : decode cX7_hasRoom 57 = .ok (.aload_n 0, 1) := by decide +kernel
theorem dX7_hasRoom_58 : decode cX7_hasRoom 58 = .ok (.iload_n 1, 1) := by decide +kernel
theorem dX7_hasRoom_59 : decode cX7_hasRoom 59 = .ok (.iload_n 2, 1) := by decide +kernel
theorem dX7_hasRoom_60 : decode cX7_hasRoom 60 = .ok (.iconst 1, 1) := by decide +kernel
theorem dX7_hasRoom_61 : decode cX7_hasRoom 61 = .ok (.invokevirtual 57, 3) := by decide +kernel
theorem dX7_hasRoom_64 : decode cX7_hasRoom 64 = .ok (.if_icmp .eq 16, 3) := by decide +kernel
theorem dX7_hasRoom_67 : decode cX7_hasRoom 67 = .ok (.iload 6, 2) := by decide +kernel
theorem dX7_hasRoom_69 : decode cX7_hasRoom 69 = .ok (.iload_n 3, 1) := by decide +kernel
theorem dX7_hasRoom_70 : decode cX7_hasRoom 70 = .ok (.if_icmp .ge 10, 3) := by decide +kernel
theorem dX7_hasRoom_73 : decode cX7_hasRoom 73 = .ok (.iload 6, 2) := by decide +kernel
theorem dX7_hasRoom_75 : decode cX7_hasRoom 75 = .ok (.istore_n 3, 1) := by decide +kernel
theorem dX7_hasRoom_76 : decode cX7_hasRoom 76 = .ok (.iload 5, 2) := by decide +kernel
theorem dX7_hasRoom_78 : decode cX7_hasRoom 78 = .ok (.istore 4, 2) := by decide +kernel
theorem dX7_hasRoom_80 : decode cX7_hasRoom 80 = .ok (.iinc 5 1, 3) := by decide +kernel
theorem dX7_hasRoom_83 : decode cX7_hasRoom 83 = .ok (.goto (-73), 3) := by decide +kernel
theorem dX7_hasRoom_86 : decode cX7_hasRoom 86 = .ok (.iload 4, 2) := by decide +kernel
theorem dX7_hasRoom_88 : decode cX7_hasRoom 88 = .ok (.ifCond .lt 21, 3) := by decide +kernel
theorem dX7_hasRoom_91 : decode cX7_hasRoom 91 = .ok (.iload_n 3, 1) := by decide +kernel
theorem dX7_hasRoom_92 : decode cX7_hasRoom 92 = .ok (.ifCond .le 21, 3) := by decide +kernel
theorem dX7_hasRoom_95 : decode cX7_hasRoom 95 = .ok (.iload_n 3, 1) := by decide +kernel
theorem dX7_hasRoom_96 : decode cX7_hasRoom 96 = .ok (.iconst 1, 1) := by decide +kernel
theorem dX7_hasRoom_97 : decode cX7_hasRoom 97 = .ok (.isub, 1) := by decide +kernel
theorem dX7_hasRoom_98 : decode cX7_hasRoom 98 = .ok (.aload_n 0, 1) := by decide +kernel
theorem dX7_hasRoom_99 : decode cX7_hasRoom 99 = .ok (.iload_n 1, 1) := by decide +kernel
theorem dX7_hasRoom_100 : decode cX7_hasRoom 100 = .ok (.iload 4, 2) := by decide +kernel
theorem dX7_hasRoom_102 : decode cX7_hasRoom 102 = .ok (.iconst 2, 1) := by decide +kernel
theorem dX7_hasRoom_103 : decode cX7_hasRoom 103 = .ok (.invokevirtual 57, 3) := by decide +kernel
theorem dX7_hasRoom_106 : decode cX7_hasRoom 106 = .ok (.if_icmp .lt 7, 3) := by decide +kernel
theorem dX7_hasRoom_109 : decode cX7_hasRoom 109 = .ok (.iconst 1, 1) := by decide +kernel
theorem dX7_hasRoom_110 : decode cX7_hasRoom 110 = .ok (.goto 4, 3) := by decide +kernel
theorem dX7_hasRoom_113 : decode cX7_hasRoom 113 = .ok (.iconst 0, 1) := by decide +kernel
theorem dX7_hasRoom_114 : decode cX7_hasRoom 114 = .ok (.ireturn, 1) := by decide +kernel
theorem dX7_limited_0 : decode cX7_limited 0 = .ok (.aload_n 0, 1) := by decide +kernel
theorem dX7_limited_1 : decode cX7_limited 1 = .ok (.getfield 32, 3) := by decide +kernel
theorem dX7_limited_4 : decode cX7_limited 4 = .ok (.iload_n 2, 1) := by decide +kernel
theorem dX7_limited_5 : decode cX7_limited 5 = .ok (.iaload, 1) := by decide +kernel
theorem dX7_limited_6 : decode cX7_limited 6 = .ok (.istore_n 3, 1) := by decide +kernel
theorem dX7_limited_7 : decode cX7_limited 7 = .ok (.aload_n 0, 1) := by decide +kernel
theorem dX7_limited_8 : decode cX7_limited 8 = .ok (.getfield 7, 3) := by decide +kernel
theorem dX7_limited_11 : decode cX7_limited 11 = .ok (.sipush 640, 3) := by decide +kernel
theorem dX7_limited_14 : decode cX7_limited 14 = .ok (.iload_n 1, 1) := by decide +kernel
theorem dX7_limited_15 : decode cX7_limited 15 = .ok (.imul, 1) := by decide +kernel
theorem dX7_limited_16 : decode cX7_limited 16 = .ok (.iconst 1, 1) := by decide +kernel
theorem dX7_limited_17 : decode cX7_limited 17 = .ok (.iadd, 1) := by decide +kernel
theorem dX7_limited_18 : decode cX7_limited 18 = .ok (.iaload, 1) := by decide +kernel
theorem dX7_limited_19 : decode cX7_limited 19 = .ok (.istore 4, 2) := by decide +kernel
theorem dX7_limited_21 : decode cX7_limited 21 = .ok (.iconst 0, 1) := by decide +kernel
theorem dX7_limited_22 : decode cX7_limited 22 = .ok (.istore 5, 2) := by decide +kernel
theorem dX7_limited_24 : decode cX7_limited 24 = .ok (.iload 5, 2) := by decide +kernel
theorem dX7_limited_26 : decode cX7_limited 26 = .ok (.aload_n 0, 1) := by decide +kernel
theorem dX7_limited_27 : decode cX7_limited 27 = .ok (.getfield 7, 3) := by decide +kernel
theorem dX7_limited_30 : decode cX7_limited 30 = .ok (.sipush 640, 3) := by decide +kernel
theorem dX7_limited_33 : decode cX7_limited 33 = .ok (.iload_n 1, 1) := by decide +kernel
theorem dX7_limited_34 : decode cX7_limited 34 = .ok (.imul, 1) := by decide +kernel
theorem dX7_limited_35 : decode cX7_limited 35 = .ok (.iconst 5, 1) := by decide +kernel
theorem dX7_limited_36 : decode cX7_limited 36 = .ok (.iadd, 1) := by decide +kernel
theorem dX7_limited_37 : decode cX7_limited 37 = .ok (.iaload, 1) := by decide +kernel
theorem dX7_limited_38 : decode cX7_limited 38 = .ok (.if_icmp .ge 109, 3) := by decide +kernel
theorem dX7_limited_41 : decode cX7_limited 41 = .ok (.sipush 640, 3) := by decide +kernel
theorem dX7_limited_44 : decode cX7_limited 44 = .ok (.iload_n 1, 1) := by decide +kernel
theorem dX7_limited_45 : decode cX7_limited 45 = .ok (.imul, 1) := by decide +kernel
theorem dX7_limited_46 : decode cX7_limited 46 = .ok (.bipush 10, 2) := by decide +kernel
theorem dX7_limited_48 : decode cX7_limited 48 = .ok (.iadd, 1) := by decide +kernel
theorem dX7_limited_49 : decode cX7_limited 49 = .ok (.iconst 3, 1) := by decide +kernel
theorem dX7_limited_50 : decode cX7_limited 50 = .ok (.iload 5, 2) := by decide +kernel
theorem dX7_limited_52 : decode cX7_limited 52 = .ok (.imul, 1) := by decide +kernel
theorem dX7_limited_53 : decode cX7_limited 53 = .ok (.iadd, 1) := by decide +kernel
theorem dX7_limited_54 : decode cX7_limited 54 = .ok (.istore 6, 2) := by decide +kernel
theorem dX7_limited_56 : decode cX7_limited 56 = .ok (.aload_n 0, 1) := by decide +kernel
theorem dX7_limited_57 : decode cX7_limited 57 = .ok (.iload_n 1, 1) := by decide +kernel
theorem dX7_limited_58 : decode cX7_limited 58 = .ok (.aload_n 0, 1) := by decide +kernel
theorem dX7_limited_59 : decode cX7_limited 59 = .ok (.getfield 7, 3) := by decide +kernel
theorem dX7_limited_62 : decode cX7_limited 62 = .ok (.iload 6, 2) := by decide +kernel
theorem dX7_limited_64 : decode cX7_limited 64 = .ok (.iaload, 1) := by decide +kernel
theorem dX7_limited_65 : decode cX7_limited 65 = .ok (.aload_n 0, 1) := by decide +kernel
theorem dX7_limited_66 : decode cX7_limited 66 = .ok (.iload_n 1, 1) := by decide +kernel
theorem dX7_limited_67 : decode cX7_limited 67 = .ok (.iload_n 2, 1) := by decide +kernel
theorem dX7_limited_68 : decode cX7_limited 68 = .ok (.iconst 0, 1) := by decide +kernel
theorem dX7_limited_69 : decode cX7_limited 69 = .ok (.invokevirtual 57, 3) := by decide +kernel
theorem dX7_limited_72 : decode cX7_limited 72 = .ok (.invokevirtual 61, 3) := by decide +kernel
theorem dX7_limited_75 : decode cX7_limited 75 = .ok (.aload_n 0, 1) := by decide +kernel
theorem dX7_limited_76 : decode cX7_limited 76 = .ok (.iload_n 1, 1) := by decide +kernel
theorem dX7_limited_77 : decode cX7_limited 77 = .ok (.aload_n 0, 1) := by decide +kernel
theorem dX7_limited_78 : decode cX7_limited 78 = .ok (.getfield 7, 3) := by decide +kernel
theorem dX7_limited_81 : decode cX7_limited 81 = .ok (.iload 6, 2) := by decide +kernel
theorem dX7_limited_83 : decode cX7_limited 83 = .ok (.iaload, 1) := by decide +kernel
theorem dX7_limited_84 : decode cX7_limited 84 = .ok (.aload_n 0, 1) := by decide +kernel
theorem dX7_limited_85 : decode cX7_limited 85 = .ok (.getfield 7, 3) := by decide +kernel
theorem dX7_limited_88 : decode cX7_limited 88 = .ok (.iload 6, 2) := by decide +kernel
theorem dX7_limited_90 : decode cX7_limited 90 = .ok (.iconst 1, 1) := by decide +kernel
theorem dX7_limited_91 : decode cX7_limited 91 = .ok (.iadd, 1) := by decide +kernel
theorem dX7_limited_92 : decode cX7_limited 92 = .ok (.iaload, 1) := by decide +kernel
theorem dX7_limited_93 : decode cX7_limited 93 = .ok (.invokevirtual 61, 3) := by decide +kernel
theorem dX7_limited_96 : decode cX7_limited 96 = .ok (.if_icmp .gt 7, 3) := by decide +kernel
theorem dX7_limited_99 : decode cX7_limited 99 = .ok (.iconst 1, 1) := by decide +kernel
theorem dX7_limited_100 : decode cX7_limited 100 = .ok (.goto 4, 3) := by decide +kernel
theorem dX7_limited_103 : decode cX7_limited 103 = .ok (.iconst 0, 1) := by decide +kernel
theorem dX7_limited_104 : decode cX7_limited 104 = .ok (.istore 7, 2) := by decide +kernel
theorem dX7_limited_106 : decode cX7_limited 106 = .ok (.iload 7, 2) := by decide +kernel
theorem dX7_limited_108 : decode cX7_limited 108 = .ok (.ifCond .eq 29, 3) := by decide +kernel
theorem dX7_limited_111 : decode cX7_limited 111 = .ok (.aload_n 0, 1) := by decide +kernel
theorem dX7_limited_112 : decode cX7_limited 112 = .ok (.getfield 7, 3) := by decide +kernel
theorem dX7_limited_115 : decode cX7_limited 115 = .ok (.iload 6, 2) := by decide +kernel
theorem dX7_limited_117 : decode cX7_limited 117 = .ok (.iconst 2, 1) := by decide +kernel
theorem dX7_limited_118 : decode cX7_limited 118 = .ok (.iadd, 1) := by decide +kernel
theorem dX7_limited_119 : decode cX7_limited 119 = .ok (.iaload, 1) := by decide +kernel
theorem dX7_limited_120 : decode cX7_limited 120 = .ok (.iload 4, 2) := by decide +kernel
theorem dX7_limited_122 : decode cX7_limited 122 = .ok (.if_icmp .ge 15, 3) := by decide +kernel
theorem dX7_limited_125 : decode cX7_limited 125 = .ok (.aload_n 0, 1) := by decide +kernel
theorem dX7_limited_126 : decode cX7_limited 126 = .ok (.getfield 7, 3) := by decide +kernel
theorem dX7_limited_129 : decode cX7_limited 129 = .ok (.iload 6, 2) := by decide +kernel
theorem dX7_limited_131 : decode cX7_limited 131 = .ok (.iconst 2, 1) := by decide +kernel
theorem dX7_limited_132 : decode cX7_limited 132 = .ok (.iadd, 1) := by decide +kernel
theorem dX7_limited_133 : decode cX7_limited 133 = .ok (.iaload, 1) := by decide +kernel
theorem dX7_limited_134 : decode cX7_limited 134 = .ok (.goto 5, 3) := by decide +kernel
theorem dX7_limited_137 : decode cX7_limited 137 = .ok (.iload 4, 2) := by decide +kernel
theorem dX7_limited_139 : decode cX7_limited 139 = .ok (.istore 4, 2) := by decide +kernel
theorem dX7_limited_141 : decode cX7_limited 141 = .ok (.iinc 5 1, 3) := by decide +kernel
theorem dX7_limited_144 : decode cX7_limited 144 = .ok (.goto (-120), 3) := by decide +kernel
theorem dX7_limited_147 : decode cX7_limited 147 = .ok (.aload_n 0, 1) := by decide +kernel
theorem dX7_limited_148 : decode cX7_limited 148 = .ok (.iload_n 1, 1) := by decide +kernel
theorem dX7_limited_149 : decode cX7_limited 149 = .ok (.iload_n 2, 1) := by decide +kernel
theorem dX7_limited_150 : decode cX7_limited 150 = .ok (.invokevirtual 92, 3) := by decide +kernel
theorem dX7_limited_153 : decode cX7_limited 153 = .ok (.istore 5, 2) := by decide +kernel
theorem dX7_limited_155 : decode cX7_limited 155 = .ok (.iload 5, 2) := by decide +kernel
theorem dX7_limited_157 : decode cX7_limited 157 = .ok (.iload 4, 2) := by decide +kernel
theorem dX7_limited_159 : decode cX7_limited 159 = .ok (.if_icmp .ge 8, 3) := by decide +kernel
theorem dX7_limited_162 : decode cX7_limited 162 = .ok (.iload 5, 2) := by decide +kernel
theorem dX7_limited_164 : decode cX7_limited 164 = .ok (.goto 5, 3) := by decide +kernel
theorem dX7_limited_167 : decode cX7_limited 167 = .ok (.iload 4, 2) := by decide +kernel
theorem dX7_limited_169 : decode cX7_limited 169 = .ok (.istore 4, 2) := by decide +kernel
theorem dX7_limited_171 : decode cX7_limited 171 = .ok (.iload_n 3, 1) := by decide +kernel
theorem dX7_limited_172 : decode cX7_limited 172 = .ok (.ifCond .ge 7, 3) := by decide +kernel
theorem dX7_limited_175 : decode cX7_limited 175 = .ok (.iconst 0, 1) := by decide +kernel
theorem dX7_limited_176 : decode cX7_limited 176 = .ok (.goto 4, 3) := by decide +kernel
theorem dX7_limited_179 : decode cX7_limited 179 = .ok (.iload_n 3, 1) := by decide +kernel
theorem dX7_limited_180 : decode cX7_limited 180 = .ok (.istore_n 3, 1) := by decide +kernel
theorem dX7_limited_181 : decode cX7_limited 181 = .ok (.aload_n 0, 1) := by decide +kernel
theorem dX7_limited_182 : decode cX7_limited 182 = .ok (.iload_n 1, 1) := by decide +kernel
theorem dX7_limited_183 : decode cX7_limited 183 = .ok (.iload_n 2, 1) := by decide +kernel
theorem dX7_limited_184 : decode cX7_limited 184 = .ok (.bipush 7, 2) := by decide +kernel
theorem dX7_limited_186 : decode cX7_limited 186 = .ok (.invokevirtual 57, 3) := by decide +kernel
theorem dX7_limited_189 : decode cX7_limited 189 = .ok (.iconst 1, 1) := by decide +kernel
theorem dX7_limited_190 : decode cX7_limited 190 = .ok (.if_icmp .ne 7, 3) := by decide +kernel
theorem dX7_limited_193 : decode cX7_limited 193 = .ok (.iconst 0, 1) := by decide +kernel
theorem dX7_limited_194 : decode cX7_limited 194 = .ok (.goto 15, 3) := by decide +kernel
theorem dX7_limited_197 : decode cX7_limited 197 = .ok (.iload_n 3, 1) := by decide +kernel
theorem dX7_limited_198 : decode cX7_limited 198 = .ok (.iload 4, 2) := by decide +kernel
theorem dX7_limited_200 : decode cX7_limited 200 = .ok (.if_icmp .le 8, 3) := by decide +kernel
theorem dX7_limited_203 : decode cX7_limited 203 = .ok (.iload 4, 2) := by decide +kernel
theorem dX7_limited_205 : decode cX7_limited 205 = .ok (.goto 4, 3) := by decide +kernel
theorem dX7_limited_208 : decode cX7_limited 208 = .ok (.iload_n 3, 1) := by decide +kernel
theorem dX7_limited_209 : decode cX7_limited 209 = .ok (.ireturn, 1) := by decide +kernel
theorem dX7_goOn_0 : decode cX7_goOn 0 = .ok (.aload_n 0, 1) := by decide +kernel
theorem dX7_goOn_1 : decode cX7_goOn 1 = .ok (.iload_n 1, 1) := by decide +kernel
theorem dX7_goOn_2 : decode cX7_goOn 2 = .ok (.iload_n 2, 1) := by decide +kernel
theorem dX7_goOn_3 : decode cX7_goOn 3 = .ok (.iconst 2, 1) := by decide +kernel
theorem dX7_goOn_4 : decode cX7_goOn 4 = .ok (.invokevirtual 57, 3) := by decide +kernel
theorem dX7_goOn_7 : decode cX7_goOn 7 = .ok (.istore_n 3, 1) := by decide +kernel
theorem dX7_goOn_8 : decode cX7_goOn 8 = .ok (.aload_n 0, 1) := by decide +kernel
theorem dX7_goOn_9 : decode cX7_goOn 9 = .ok (.iload_n 1, 1) := by decide +kernel
theorem dX7_goOn_10 : decode cX7_goOn 10 = .ok (.iload_n 2, 1) := by decide +kernel
theorem dX7_goOn_11 : decode cX7_goOn 11 = .ok (.iconst 0, 1) := by decide +kernel
theorem dX7_goOn_12 : decode cX7_goOn 12 = .ok (.invokevirtual 57, 3) := by decide +kernel
theorem dX7_goOn_15 : decode cX7_goOn 15 = .ok (.istore 4, 2) := by decide +kernel
theorem dX7_goOn_17 : decode cX7_goOn 17 = .ok (.iconst 0, 1) := by decide +kernel
theorem dX7_goOn_18 : decode cX7_goOn 18 = .ok (.istore 5, 2) := by decide +kernel
theorem dX7_goOn_20 : decode cX7_goOn 20 = .ok (.iload 5, 2) := by decide +kernel
theorem dX7_goOn_22 : decode cX7_goOn 22 = .ok (.aload_n 0, 1) := by decide +kernel
theorem dX7_goOn_23 : decode cX7_goOn 23 = .ok (.getfield 7, 3) := by decide +kernel
theorem dX7_goOn_26 : decode cX7_goOn 26 = .ok (.sipush 640, 3) := by decide +kernel
theorem dX7_goOn_29 : decode cX7_goOn 29 = .ok (.iload_n 1, 1) := by decide +kernel
theorem dX7_goOn_30 : decode cX7_goOn 30 = .ok (.imul, 1) := by decide +kernel
theorem dX7_goOn_31 : decode cX7_goOn 31 = .ok (.bipush 6, 2) := by decide +kernel
theorem dX7_goOn_33 : decode cX7_goOn 33 = .ok (.iadd, 1) := by decide +kernel
theorem dX7_goOn_34 : decode cX7_goOn 34 = .ok (.iaload, 1) := by decide +kernel
theorem dX7_goOn_35 : decode cX7_goOn 35 = .ok (.if_icmp .ge 74, 3) := by decide +kernel
theorem dX7_goOn_38 : decode cX7_goOn 38 = .ok (.sipush 640, 3) := by decide +kernel
theorem dX7_goOn_41 : decode cX7_goOn 41 = .ok (.iload_n 1, 1) := by decide +kernel
theorem dX7_goOn_42 : decode cX7_goOn 42 = .ok (.imul, 1) := by decide +kernel
theorem dX7_goOn_43 : decode cX7_goOn 43 = .ok (.bipush 22, 2) := by decide +kernel
theorem dX7_goOn_45 : decode cX7_goOn 45 = .ok (.iadd, 1) := by decide +kernel
theorem dX7_goOn_46 : decode cX7_goOn 46 = .ok (.iconst 3, 1) := by decide +kernel
theorem dX7_goOn_47 : decode cX7_goOn 47 = .ok (.iload 5, 2) := by decide +kernel
theorem dX7_goOn_49 : decode cX7_goOn 49 = .ok (.imul, 1) := by decide +kernel
theorem dX7_goOn_50 : decode cX7_goOn 50 = .ok (.iadd, 1) := by decide +kernel
theorem dX7_goOn_51 : decode cX7_goOn 51 = .ok (.istore 6, 2) := by decide +kernel
theorem dX7_goOn_53 : decode cX7_goOn 53 = .ok (.aload_n 0, 1) := by decide +kernel
theorem dX7_goOn_54 : decode cX7_goOn 54 = .ok (.iload_n 1, 1) := by decide +kernel
theorem dX7_goOn_55 : decode cX7_goOn 55 = .ok (.iload 4, 2) := by decide +kernel
theorem dX7_goOn_57 : decode cX7_goOn 57 = .ok (.aload_n 0, 1) := by decide +kernel
theorem dX7_goOn_58 : decode cX7_goOn 58 = .ok (.getfield 7, 3) := by decide +kernel
theorem dX7_goOn_61 : decode cX7_goOn 61 = .ok (.iload 6, 2) := by decide +kernel
theorem dX7_goOn_63 : decode cX7_goOn 63 = .ok (.iaload, 1) := by decide +kernel
theorem dX7_goOn_64 : decode cX7_goOn 64 = .ok (.invokevirtual 61, 3) := by decide +kernel
theorem dX7_goOn_67 : decode cX7_goOn 67 = .ok (.i2l, 1) := by decide +kernel
theorem dX7_goOn_68 : decode cX7_goOn 68 = .ok (.lconst 1, 1) := by decide +kernel
theorem dX7_goOn_69 : decode cX7_goOn 69 = .ok (.iload_n 3, 1) := by decide +kernel
theorem dX7_goOn_70 : decode cX7_goOn 70 = .ok (.i2l, 1) := by decide +kernel
theorem dX7_goOn_71 : decode cX7_goOn 71 = .ok (.invokestatic 53, 3) := by decide +kernel
theorem dX7_goOn_74 : decode cX7_goOn 74 = .ok (.ifCond .eq 29, 3) := by decide +kernel
theorem dX7_goOn_77 : decode cX7_goOn 77 = .ok (.aload_n 0, 1) := by decide +kernel
theorem dX7_goOn_78 : decode cX7_goOn 78 = .ok (.getfield 7, 3) := by decide +kernel
theorem dX7_goOn_81 : decode cX7_goOn 81 = .ok (.iload 6, 2) := by decide +kernel
theorem dX7_goOn_83 : decode cX7_goOn 83 = .ok (.iconst 1, 1) := by decide +kernel
theorem dX7_goOn_84 : decode cX7_goOn 84 = .ok (.iadd, 1) := by decide +kernel
theorem dX7_goOn_85 : decode cX7_goOn 85 = .ok (.dup2, 1) := by decide +kernel
theorem dX7_goOn_86 : decode cX7_goOn 86 = .ok (.iaload, 1) := by decide +kernel
theorem dX7_goOn_87 : decode cX7_goOn 87 = .ok (.iconst 1, 1) := by decide +kernel
theorem dX7_goOn_88 : decode cX7_goOn 88 = .ok (.iadd, 1) := by decide +kernel
theorem dX7_goOn_89 : decode cX7_goOn 89 = .ok (.iastore, 1) := by decide +kernel
theorem dX7_goOn_90 : decode cX7_goOn 90 = .ok (.aload_n 0, 1) := by decide +kernel
theorem dX7_goOn_91 : decode cX7_goOn 91 = .ok (.getfield 7, 3) := by decide +kernel
theorem dX7_goOn_94 : decode cX7_goOn 94 = .ok (.iload 6, 2) := by decide +kernel
theorem dX7_goOn_96 : decode cX7_goOn 96 = .ok (.iconst 2, 1) := by decide +kernel
theorem dX7_goOn_97 : decode cX7_goOn 97 = .ok (.iadd, 1) := by decide +kernel
theorem dX7_goOn_98 : decode cX7_goOn 98 = .ok (.dup2, 1) := by decide +kernel
theorem dX7_goOn_99 : decode cX7_goOn 99 = .ok (.iaload, 1) := by decide +kernel
theorem dX7_goOn_100 : decode cX7_goOn 100 = .ok (.iload_n 3, 1) := by decide +kernel
theorem dX7_goOn_101 : decode cX7_goOn 101 = .ok (.iadd, 1) := by decide +kernel
theorem dX7_goOn_102 : decode cX7_goOn 102 = .ok (.iastore, 1) := by decide +kernel
theorem dX7_goOn_103 : decode cX7_goOn 103 = .ok (.iinc 5 1, 3) := by decide +kernel
theorem dX7_goOn_106 : decode cX7_goOn 106 = .ok (.goto (-86), 3) := by decide +kernel
theorem dX7_goOn_109 : decode cX7_goOn 109 = .ok (.aload_n 0, 1) := by decide +kernel
theorem dX7_goOn_110 : decode cX7_goOn 110 = .ok (.getfield 7, 3) := by decide +kernel
theorem dX7_goOn_113 : decode cX7_goOn 113 = .ok (.iload_n 1, 1) := by decide +kernel
theorem dX7_goOn_114 : decode cX7_goOn 114 = .ok (.iload_n 2, 1) := by decide +kernel
theorem dX7_goOn_115 : decode cX7_goOn 115 = .ok (.iconst 0, 1) := by decide +kernel
theorem dX7_goOn_116 : decode cX7_goOn 116 = .ok (.invokestatic 74, 3) := by decide +kernel
theorem dX7_goOn_119 : decode cX7_goOn 119 = .ok (.iload 4, 2) := by decide +kernel
theorem dX7_goOn_121 : decode cX7_goOn 121 = .ok (.iload_n 3, 1) := by decide +kernel
theorem dX7_goOn_122 : decode cX7_goOn 122 = .ok (.iadd, 1) := by decide +kernel
theorem dX7_goOn_123 : decode cX7_goOn 123 = .ok (.aload_n 0, 1) := by decide +kernel
theorem dX7_goOn_124 : decode cX7_goOn 124 = .ok (.getfield 7, 3) := by decide +kernel
theorem dX7_goOn_127 : decode cX7_goOn 127 = .ok (.sipush 640, 3) := by decide +kernel
theorem dX7_goOn_130 : decode cX7_goOn 130 = .ok (.iload_n 1, 1) := by decide +kernel
theorem dX7_goOn_131 : decode cX7_goOn 131 = .ok (.imul, 1) := by decide +kernel
theorem dX7_goOn_132 : decode cX7_goOn 132 = .ok (.iconst 0, 1) := by decide +kernel
theorem dX7_goOn_133 : decode cX7_goOn 133 = .ok (.iadd, 1) := by decide +kernel
theorem dX7_goOn_134 : decode cX7_goOn 134 = .ok (.iaload, 1) := by decide +kernel
theorem dX7_goOn_135 : decode cX7_goOn 135 = .ok (.irem, 1) := by decide +kernel
theorem dX7_goOn_136 : decode cX7_goOn 136 = .ok (.iastore, 1) := by decide +kernel
theorem dX7_goOn_137 : decode cX7_goOn 137 = .ok (.aload_n 0, 1) := by decide +kernel
theorem dX7_goOn_138 : decode cX7_goOn 138 = .ok (.getfield 7, 3) := by decide +kernel
theorem dX7_goOn_141 : decode cX7_goOn 141 = .ok (.iload_n 1, 1) := by decide +kernel
theorem dX7_goOn_142 : decode cX7_goOn 142 = .ok (.iload_n 2, 1) := by decide +kernel
theorem dX7_goOn_143 : decode cX7_goOn 143 = .ok (.iconst 5, 1) := by decide +kernel
theorem dX7_goOn_144 : decode cX7_goOn 144 = .ok (.invokestatic 74, 3) := by decide +kernel
theorem dX7_goOn_147 : decode cX7_goOn 147 = .ok (.dup2, 1) := by decide +kernel
theorem dX7_goOn_148 : decode cX7_goOn 148 = .ok (.iaload, 1) := by decide +kernel
theorem dX7_goOn_149 : decode cX7_goOn 149 = .ok (.iload_n 3, 1) := by decide +kernel
theorem dX7_goOn_150 : decode cX7_goOn 150 = .ok (.iadd, 1) := by decide +kernel
theorem dX7_goOn_151 : decode cX7_goOn 151 = .ok (.iastore, 1) := by decide +kernel
theorem dX7_goOn_152 : decode cX7_goOn 152 = .ok (.aload_n 0, 1) := by decide +kernel
theorem dX7_goOn_153 : decode cX7_goOn 153 = .ok (.getfield 7, 3) := by decide +kernel
theorem dX7_goOn_156 : decode cX7_goOn 156 = .ok (.iload_n 1, 1) := by decide +kernel
theorem dX7_goOn_157 : decode cX7_goOn 157 = .ok (.iload_n 2, 1) := by decide +kernel
theorem dX7_goOn_158 : decode cX7_goOn 158 = .ok (.bipush 7, 2) := by decide +kernel
theorem dX7_goOn_160 : decode cX7_goOn 160 = .ok (.invokestatic 74, 3) := by decide +kernel
theorem dX7_goOn_163 : decode cX7_goOn 163 = .ok (.iconst 0, 1) := by decide +kernel
theorem dX7_goOn_164 : decode cX7_goOn 164 = .ok (.iastore, 1) := by decide +kernel
theorem dX7_goOn_165 : decode cX7_goOn 165 = .ok (.return_, 1) := by decide +kernel
theorem dX7_tick_0 : decode cX7_tick 0 = .ok (.aload_n 0, 1) := by decide +kernel
theorem dX7_tick_1 : decode cX7_tick 1 = .ok (.getfield 7, 3) := by decide +kernel
theorem dX7_tick_4 : decode cX7_tick 4 = .ok (.sipush 640, 3) := by decide +kernel
theorem dX7_tick_7 : decode cX7_tick 7 = .ok (.iload_n 1, 1) := by decide +kernel
theorem dX7_tick_8 : decode cX7_tick 8 = .ok (.imul, 1) := by decide +kernel
theorem dX7_tick_9 : decode cX7_tick 9 = .ok (.iconst 2, 1) := by decide +kernel
theorem dX7_tick_10 : decode cX7_tick 10 = .ok (.iadd, 1) := by decide +kernel
theorem dX7_tick_11 : decode cX7_tick 11 = .ok (.iaload, 1) := by decide +kernel
theorem dX7_tick_12 : decode cX7_tick 12 = .ok (.istore_n 2, 1) := by decide +kernel
theorem dX7_tick_13 : decode cX7_tick 13 = .ok (.iconst 0, 1) := by decide +kernel
theorem dX7_tick_14 : decode cX7_tick 14 = .ok (.istore_n 3, 1) := by decide +kernel
theorem dX7_tick_15 : decode cX7_tick 15 = .ok (.iload_n 3, 1) := by decide +kernel
theorem dX7_tick_16 : decode cX7_tick 16 = .ok (.iload_n 2, 1) := by decide +kernel
theorem dX7_tick_17 : decode cX7_tick 17 = .ok (.if_icmp .ge 15, 3) := by decide +kernel
theorem dX7_tick_20 : decode cX7_tick 20 = .ok (.aload_n 0, 1) := by decide +kernel
theorem dX7_tick_21 : decode cX7_tick 21 = .ok (.iload_n 1, 1) := by decide +kernel
theorem dX7_tick_22 : decode cX7_tick 22 = .ok (.iload_n 3, 1) := by decide +kernel
theorem dX7_tick_23 : decode cX7_tick 23 = .ok (.invokevirtual 173, 3) := by decide +kernel
theorem dX7_tick_26 : decode cX7_tick 26 = .ok (.iinc 3 1, 3) := by decide +kernel
theorem dX7_tick_29 : decode cX7_tick 29 = .ok (.goto (-14), 3) := by decide +kernel
theorem dX7_tick_32 : decode cX7_tick 32 = .ok (.iconst 0, 1) := by decide +kernel
theorem dX7_tick_33 : decode cX7_tick 33 = .ok (.istore_n 3, 1) := by decide +kernel
theorem dX7_tick_34 : decode cX7_tick 34 = .ok (.iload_n 3, 1) := by decide +kernel
theorem dX7_tick_35 : decode cX7_tick 35 = .ok (.iload_n 2, 1) := by decide +kernel
theorem dX7_tick_36 : decode cX7_tick 36 = .ok (.if_icmp .ge 15, 3) := by decide +kernel
theorem dX7_tick_39 : decode cX7_tick 39 = .ok (.aload_n 0, 1) := by decide +kernel
theorem dX7_tick_40 : decode cX7_tick 40 = .ok (.iload_n 1, 1) := by decide +kernel
theorem dX7_tick_41 : decode cX7_tick 41 = .ok (.iload_n 3, 1) := by decide +kernel
theorem dX7_tick_42 : decode cX7_tick 42 = .ok (.invokevirtual 177, 3) := by decide +kernel
theorem dX7_tick_45 : decode cX7_tick 45 = .ok (.iinc 3 1, 3) := by decide +kernel
theorem dX7_tick_48 : decode cX7_tick 48 = .ok (.goto (-14), 3) := by decide +kernel
theorem dX7_tick_51 : decode cX7_tick 51 = .ok (.iconst 0, 1) := by decide +kernel
theorem dX7_tick_52 : decode cX7_tick 52 = .ok (.istore_n 3, 1) := by decide +kernel
theorem dX7_tick_53 : decode cX7_tick 53 = .ok (.iload_n 3, 1) := by decide +kernel
theorem dX7_tick_54 : decode cX7_tick 54 = .ok (.iload_n 2, 1) := by decide +kernel
theorem dX7_tick_55 : decode cX7_tick 55 = .ok (.if_icmp .ge 63, 3) := by decide +kernel
theorem dX7_tick_58 : decode cX7_tick 58 = .ok (.aload_n 0, 1) := by decide +kernel
theorem dX7_tick_59 : decode cX7_tick 59 = .ok (.getfield 35, 3) := by decide +kernel
theorem dX7_tick_62 : decode cX7_tick 62 = .ok (.iload_n 3, 1) := by decide +kernel
theorem dX7_tick_63 : decode cX7_tick 63 = .ok (.baload, 1) := by decide +kernel
theorem dX7_tick_64 : decode cX7_tick 64 = .ok (.ifCond .eq 48, 3) := by decide +kernel
theorem dX7_tick_67 : decode cX7_tick 67 = .ok (.aload_n 0, 1) := by decide +kernel
theorem dX7_tick_68 : decode cX7_tick 68 = .ok (.iload_n 1, 1) := by decide +kernel
theorem dX7_tick_69 : decode cX7_tick 69 = .ok (.iload_n 3, 1) := by decide +kernel
theorem dX7_tick_70 : decode cX7_tick 70 = .ok (.invokevirtual 180, 3) := by decide +kernel
theorem dX7_tick_73 : decode cX7_tick 73 = .ok (.ifCond .eq 39, 3) := by decide +kernel
theorem dX7_tick_76 : decode cX7_tick 76 = .ok (.aload_n 0, 1) := by decide +kernel
theorem dX7_tick_77 : decode cX7_tick 77 = .ok (.getfield 7, 3) := by decide +kernel
theorem dX7_tick_80 : decode cX7_tick 80 = .ok (.iload_n 1, 1) := by decide +kernel
theorem dX7_tick_81 : decode cX7_tick 81 = .ok (.iload_n 3, 1) := by decide +kernel
theorem dX7_tick_82 : decode cX7_tick 82 = .ok (.iconst 1, 1) := by decide +kernel
theorem dX7_tick_83 : decode cX7_tick 83 = .ok (.invokestatic 74, 3) := by decide +kernel
theorem dX7_tick_86 : decode cX7_tick 86 = .ok (.iconst 1, 1) := by decide +kernel
theorem dX7_tick_87 : decode cX7_tick 87 = .ok (.aload_n 0, 1) := by decide +kernel
theorem dX7_tick_88 : decode cX7_tick 88 = .ok (.iload_n 1, 1) := by decide +kernel
theorem dX7_tick_89 : decode cX7_tick 89 = .ok (.iload_n 3, 1) := by decide +kernel
theorem dX7_tick_90 : decode cX7_tick 90 = .ok (.iconst 1, 1) := by decide +kernel
theorem dX7_tick_91 : decode cX7_tick 91 = .ok (.invokevirtual 57, 3) := by decide +kernel
theorem dX7_tick_94 : decode cX7_tick 94 = .ok (.isub, 1) := by decide +kernel
theorem dX7_tick_95 : decode cX7_tick 95 = .ok (.iastore, 1) := by decide +kernel
theorem dX7_tick_96 : decode cX7_tick 96 = .ok (.aload_n 0, 1) := by decide +kernel
theorem dX7_tick_97 : decode cX7_tick 97 = .ok (.getfield 7, 3) := by decide +kernel
theorem dX7_tick_100 : decode cX7_tick 100 = .ok (.iload_n 1, 1) := by decide +kernel
theorem dX7_tick_101 : decode cX7_tick 101 = .ok (.iload_n 3, 1) := by decide +kernel
theorem dX7_tick_102 : decode cX7_tick 102 = .ok (.bipush 6, 2) := by decide +kernel
theorem dX7_tick_104 : decode cX7_tick 104 = .ok (.invokestatic 74, 3) := by decide +kernel
theorem dX7_tick_107 : decode cX7_tick 107 = .ok (.dup2, 1) := by decide +kernel
theorem dX7_tick_108 : decode cX7_tick 108 = .ok (.iaload, 1) := by decide +kernel
theorem dX7_tick_109 : decode cX7_tick 109 = .ok (.iconst 1, 1) := by decide +kernel
theorem dX7_tick_110 : decode cX7_tick 110 = .ok (.iadd, 1) := by decide +kernel
theorem dX7_tick_111 : decode cX7_tick 111 = .ok (.iastore, 1) := by decide +kernel
theorem dX7_tick_112 : decode cX7_tick 112 = .ok (.iinc 3 1, 3) := by decide +kernel
theorem dX7_tick_115 : decode cX7_tick 115 = .ok (.goto (-62), 3) := by decide +kernel
theorem dX7_tick_118 : decode cX7_tick 118 = .ok (.iconst 0, 1) := by decide +kernel
theorem dX7_tick_119 : decode cX7_tick 119 = .ok (.istore_n 3, 1) := by decide +kernel
theorem dX7_tick_120 : decode cX7_tick 120 = .ok (.iload_n 3, 1) := by decide +kernel
theorem dX7_tick_121 : decode cX7_tick 121 = .ok (.iload_n 2, 1) := by decide +kernel
theorem dX7_tick_122 : decode cX7_tick 122 = .ok (.if_icmp .ge 21, 3) := by decide +kernel
theorem dX7_tick_125 : decode cX7_tick 125 = .ok (.aload_n 0, 1) := by decide +kernel
theorem dX7_tick_126 : decode cX7_tick 126 = .ok (.getfield 32, 3) := by decide +kernel
theorem dX7_tick_129 : decode cX7_tick 129 = .ok (.iload_n 3, 1) := by decide +kernel
theorem dX7_tick_130 : decode cX7_tick 130 = .ok (.aload_n 0, 1) := by decide +kernel
theorem dX7_tick_131 : decode cX7_tick 131 = .ok (.iload_n 1, 1) := by decide +kernel
theorem dX7_tick_132 : decode cX7_tick 132 = .ok (.iload_n 3, 1) := by decide +kernel
theorem dX7_tick_133 : decode cX7_tick 133 = .ok (.invokevirtual 184, 3) := by decide +kernel
theorem dX7_tick_136 : decode cX7_tick 136 = .ok (.iastore, 1) := by decide +kernel
theorem dX7_tick_137 : decode cX7_tick 137 = .ok (.iinc 3 1, 3) := by decide +kernel
theorem dX7_tick_140 : decode cX7_tick 140 = .ok (.goto (-20), 3) := by decide +kernel
theorem dX7_tick_143 : decode cX7_tick 143 = .ok (.iconst 0, 1) := by decide +kernel
theorem dX7_tick_144 : decode cX7_tick 144 = .ok (.istore_n 3, 1) := by decide +kernel
theorem dX7_tick_145 : decode cX7_tick 145 = .ok (.iload_n 3, 1) := by decide +kernel
theorem dX7_tick_146 : decode cX7_tick 146 = .ok (.iload_n 2, 1) := by decide +kernel
theorem dX7_tick_147 : decode cX7_tick 147 = .ok (.if_icmp .ge 32, 3) := by decide +kernel
theorem dX7_tick_150 : decode cX7_tick 150 = .ok (.aload_n 0, 1) := by decide +kernel
theorem dX7_tick_151 : decode cX7_tick 151 = .ok (.getfield 7, 3) := by decide +kernel
theorem dX7_tick_154 : decode cX7_tick 154 = .ok (.iload_n 1, 1) := by decide +kernel
theorem dX7_tick_155 : decode cX7_tick 155 = .ok (.iload_n 3, 1) := by decide +kernel
theorem dX7_tick_156 : decode cX7_tick 156 = .ok (.iconst 2, 1) := by decide +kernel
theorem dX7_tick_157 : decode cX7_tick 157 = .ok (.invokestatic 74, 3) := by decide +kernel
theorem dX7_tick_160 : decode cX7_tick 160 = .ok (.aload_n 0, 1) := by decide +kernel
theorem dX7_tick_161 : decode cX7_tick 161 = .ok (.getfield 32, 3) := by decide +kernel
theorem dX7_tick_164 : decode cX7_tick 164 = .ok (.iload_n 3, 1) := by decide +kernel
theorem dX7_tick_165 : decode cX7_tick 165 = .ok (.iaload, 1) := by decide +kernel
theorem dX7_tick_166 : decode cX7_tick 166 = .ok (.iastore, 1) := by decide +kernel
theorem dX7_tick_167 : decode cX7_tick 167 = .ok (.aload_n 0, 1) := by decide +kernel
theorem dX7_tick_168 : decode cX7_tick 168 = .ok (.iload_n 1, 1) := by decide +kernel
theorem dX7_tick_169 : decode cX7_tick 169 = .ok (.iload_n 3, 1) := by decide +kernel
theorem dX7_tick_170 : decode cX7_tick 170 = .ok (.invokevirtual 187, 3) := by decide +kernel
theorem dX7_tick_173 : decode cX7_tick 173 = .ok (.iinc 3 1, 3) := by decide +kernel
theorem dX7_tick_176 : decode cX7_tick 176 = .ok (.goto (-31), 3) := by decide +kernel
theorem dX7_tick_179 : decode cX7_tick 179 = .ok (.aload_n 0, 1) := by decide +kernel
theorem dX7_tick_180 : decode cX7_tick 180 = .ok (.getfield 7, 3) := by decide +kernel
theorem dX7_tick_183 : decode cX7_tick 183 = .ok (.sipush 640, 3) := by decide +kernel
theorem dX7_tick_186 : decode cX7_tick 186 = .ok (.iload_n 1, 1) := by decide +kernel
theorem dX7_tick_187 : decode cX7_tick 187 = .ok (.imul, 1) := by decide +kernel
theorem dX7_tick_188 : decode cX7_tick 188 = .ok (.iconst 3, 1) := by decide +kernel
theorem dX7_tick_189 : decode cX7_tick 189 = .ok (.iadd, 1) := by decide +kernel
theorem dX7_tick_190 : decode cX7_tick 190 = .ok (.dup2, 1) := by decide +kernel
theorem dX7_tick_191 : decode cX7_tick 191 = .ok (.iaload, 1) := by decide +kernel
theorem dX7_tick_192 : decode cX7_tick 192 = .ok (.iconst 1, 1) := by decide +kernel
theorem dX7_tick_193 : decode cX7_tick 193 = .ok (.iadd, 1) := by decide +kernel
theorem dX7_tick_194 : decode cX7_tick 194 = .ok (.iastore, 1) := by decide +kernel
theorem dX7_tick_195 : decode cX7_tick 195 = .ok (.aload_n 0, 1) := by decide +kernel
theorem dX7_tick_196 : decode cX7_tick 196 = .ok (.iload_n 1, 1) := by decide +kernel
theorem dX7_tick_197 : decode cX7_tick 197 = .ok (.invokevirtual 190, 3) := by decide +kernel
theorem dX7_tick_200 : decode cX7_tick 200 = .ok (.return_, 1) := by decide +kernel
theorem dX7_isEven_0 : decode cX7_isEven 0 = .ok (.iconst 1, 1) := by decide +kernel
theorem dX7_isEven_1 : decode cX7_isEven 1 = .ok (.istore_n 2, 1) := by decide +kernel
theorem dX7_isEven_2 : decode cX7_isEven 2 = .ok (.iconst 0, 1) := by decide +kernel
theorem dX7_isEven_3 : decode cX7_isEven 3 = .ok (.istore_n 3, 1) := by decide +kernel
theorem dX7_isEven_4 : decode cX7_isEven 4 = .ok (.iload_n 3, 1) := by decide +kernel
theorem dX7_isEven_5 : decode cX7_isEven 5 = .ok (.aload_n 0, 1) := by decide +kernel
theorem dX7_isEven_6 : decode cX7_isEven 6 = .ok (.getfield 7, 3) := by decide +kernel
theorem dX7_isEven_9 : decode cX7_isEven 9 = .ok (.sipush 640, 3) := by decide +kernel
theorem dX7_isEven_12 : decode cX7_isEven 12 = .ok (.iload_n 1, 1) := by decide +kernel
theorem dX7_isEven_13 : decode cX7_isEven 13 = .ok (.imul, 1) := by decide +kernel
theorem dX7_isEven_14 : decode cX7_isEven 14 = .ok (.iconst 2, 1) := by decide +kernel
theorem dX7_isEven_15 : decode cX7_isEven 15 = .ok (.iadd, 1) := by decide +kernel
theorem dX7_isEven_16 : decode cX7_isEven 16 = .ok (.iaload, 1) := by decide +kernel
theorem dX7_isEven_17 : decode cX7_isEven 17 = .ok (.if_icmp .ge 46, 3) := by decide +kernel
theorem dX7_isEven_20 : decode cX7_isEven 20 = .ok (.iload_n 2, 1) := by decide +kernel
theorem dX7_isEven_21 : decode cX7_isEven 21 = .ok (.ifCond .eq 34, 3) := by decide +kernel
theorem dX7_isEven_24 : decode cX7_isEven 24 = .ok (.aload_n 0, 1) := by decide +kernel
theorem dX7_isEven_25 : decode cX7_isEven 25 = .ok (.iload_n 1, 1) := by decide +kernel
theorem dX7_isEven_26 : decode cX7_isEven 26 = .ok (.iload_n 3, 1) := by decide +kernel
theorem dX7_isEven_27 : decode cX7_isEven 27 = .ok (.iconst 2, 1) := by decide +kernel
theorem dX7_isEven_28 : decode cX7_isEven 28 = .ok (.invokevirtual 57, 3) := by decide +kernel
theorem dX7_isEven_31 : decode cX7_isEven 31 = .ok (.ifCond .le 24, 3) := by decide +kernel
theorem dX7_isEven_34 : decode cX7_isEven 34 = .ok (.aload_n 0, 1) := by decide +kernel
theorem dX7_isEven_35 : decode cX7_isEven 35 = .ok (.iload_n 1, 1) := by decide +kernel
theorem dX7_isEven_36 : decode cX7_isEven 36 = .ok (.iload_n 3, 1) := by decide +kernel
theorem dX7_isEven_37 : decode cX7_isEven 37 = .ok (.iconst 2, 1) := by decide +kernel
