theorem dX7_init_0 : decode cX7_init 0 = .ok (.aload_n 0, 1) := by decide +kernel
theorem dX7_init_1 : decode cX7_init 1 = .ok (.invokespecial 1, 3) := by decide +kernel
theorem dX7_init_4 : decode cX7_init 4 = .ok (.aload_n 0, 1) := by decide +kernel
theorem dX7_init_5 : decode cX7_init 5 = .ok (.sipush 3200, 3) := by decide +kernel
theorem dX7_init_8 : decode cX7_init 8 = .ok (.newarray .int, 2) := by decide +kernel
theorem dX7_init_10 : decode cX7_init 10 = .ok (.putfield 7, 3) := by decide +kernel
theorem dX7_init_13 : decode cX7_init 13 = .ok (.aload_n 0, 1) := by decide +kernel
theorem dX7_init_14 : decode cX7_init 14 = .ok (.iconst 2, 1) := by decide +kernel
theorem dX7_init_15 : decode cX7_init 15 = .ok (.newarray .boolean, 2) := by decide +kernel
theorem dX7_init_17 : decode cX7_init 17 = .ok (.putfield 13, 3) := by decide +kernel
theorem dX7_init_20 : decode cX7_init 20 = .ok (.aload_n 0, 1) := by decide +kernel
theorem dX7_init_21 : decode cX7_init 21 = .ok (.bipush 100, 2) := by decide +kernel
theorem dX7_init_23 : decode cX7_init 23 = .ok (.newarray .int, 2) := by decide +kernel
theorem dX7_init_25 : decode cX7_init 25 = .ok (.putfield 17, 3) := by decide +kernel
theorem dX7_init_28 : decode cX7_init 28 = .ok (.aload_n 0, 1) := by decide +kernel
theorem dX7_init_29 : decode cX7_init 29 = .ok (.sipush 144, 3) := by decide +kernel
theorem dX7_init_32 : decode cX7_init 32 = .ok (.newarray .int, 2) := by decide +kernel
theorem dX7_init_34 : decode cX7_init 34 = .ok (.putfield 20, 3) := by decide +kernel
theorem dX7_init_37 : decode cX7_init 37 = .ok (.aload_n 0, 1) := by decide +kernel
theorem dX7_init_38 : decode cX7_init 38 = .ok (.iconst 4, 1) := by decide +kernel
theorem dX7_init_39 : decode cX7_init 39 = .ok (.newarray .int, 2) := by decide +kernel
theorem dX7_init_41 : decode cX7_init 41 = .ok (.putfield 23, 3) := by decide +kernel
theorem dX7_init_44 : decode cX7_init 44 = .ok (.aload_n 0, 1) := by decide +kernel
theorem dX7_init_45 : decode cX7_init 45 = .ok (.iconst 4, 1) := by decide +kernel
theorem dX7_init_46 : decode cX7_init 46 = .ok (.newarray .int, 2) := by decide +kernel
theorem dX7_init_48 : decode cX7_init 48 = .ok (.putfield 26, 3) := by decide +kernel
theorem dX7_init_51 : decode cX7_init 51 = .ok (.aload_n 0, 1) := by decide +kernel
theorem dX7_init_52 : decode cX7_init 52 = .ok (.bipush 36, 2) := by decide +kernel
theorem dX7_init_54 : decode cX7_init 54 = .ok (.newarray .int, 2) := by decide +kernel
theorem dX7_init_56 : decode cX7_init 56 = .ok (.putfield 29, 3) := by decide +kernel
theorem dX7_init_59 : decode cX7_init 59 = .ok (.aload_n 0, 1) := by decide +kernel
theorem dX7_init_60 : decode cX7_init 60 = .ok (.bipush 12, 2) := by decide +kernel
theorem dX7_init_62 : decode cX7_init 62 = .ok (.newarray .int, 2) := by decide +kernel
theorem dX7_init_64 : decode cX7_init 64 = .ok (.putfield 32, 3) := by decide +kernel
theorem dX7_init_67 : decode cX7_init 67 = .ok (.aload_n 0, 1) := by decide +kernel
theorem dX7_init_68 : decode cX7_init 68 = .ok (.bipush 12, 2) := by decide +kernel
theorem dX7_init_70 : decode cX7_init 70 = .ok (.newarray .boolean, 2) := by decide +kernel
theorem dX7_init_72 : decode cX7_init 72 = .ok (.putfield 35, 3) := by decide +kernel
theorem dX7_init_75 : decode cX7_init 75 = .ok (.aload_n 0, 1) := by decide +kernel
theorem dX7_init_76 : decode cX7_init 76 = .ok (.iconst 5, 1) := by decide +kernel
theorem dX7_init_77 : decode cX7_init 77 = .ok (.newarray .boolean, 2) := by decide +kernel
theorem dX7_init_79 : decode cX7_init 79 = .ok (.putfield 38, 3) := by decide +kernel
theorem dX7_init_82 : decode cX7_init 82 = .ok (.aload_n 0, 1) := by decide +kernel
theorem dX7_init_83 : decode cX7_init 83 = .ok (.iconst 5, 1) := by decide +kernel
theorem dX7_init_84 : decode cX7_init 84 = .ok (.newarray .boolean, 2) := by decide +kernel
theorem dX7_init_86 : decode cX7_init 86 = .ok (.putfield 41, 3) := by decide +kernel
theorem dX7_init_89 : decode cX7_init 89 = .ok (.aload_n 0, 1) := by decide +kernel
theorem dX7_init_90 : decode cX7_init 90 = .ok (.iconst 5, 1) := by decide +kernel
theorem dX7_init_91 : decode cX7_init 91 = .ok (.newarray .boolean, 2) := by decide +kernel
theorem dX7_init_93 : decode cX7_init 93 = .ok (.putfield 44, 3) := by decide +kernel
theorem dX7_init_96 : decode cX7_init 96 = .ok (.aload_n 0, 1) := by decide +kernel
theorem dX7_init_97 : decode cX7_init 97 = .ok (.bipush 12, 2) := by decide +kernel
theorem dX7_init_99 : decode cX7_init 99 = .ok (.newarray .int, 2) := by decide +kernel
theorem dX7_init_101 : decode cX7_init 101 = .ok (.putfield 47, 3) := by decide +kernel
theorem dX7_init_104 : decode cX7_init 104 = .ok (.aload_n 0, 1) := by decide +kernel
theorem dX7_init_105 : decode cX7_init 105 = .ok (.bipush 12, 2) := by decide +kernel
theorem dX7_init_107 : decode cX7_init 107 = .ok (.newarray .int, 2) := by decide +kernel
theorem dX7_init_109 : decode cX7_init 109 = .ok (.putfield 50, 3) := by decide +kernel
theorem dX7_init_112 : decode cX7_init 112 = .ok (.aload_n 0, 1) := by decide +kernel
theorem dX7_init_113 : decode cX7_init 113 = .ok (.getfield 7, 3) := by decide +kernel
theorem dX7_init_116 : decode cX7_init 116 = .ok (.iconst 0, 1) := by decide +kernel
theorem dX7_init_117 : decode cX7_init 117 = .ok (.bipush 30, 2) := by decide +kernel
theorem dX7_init_119 : decode cX7_init 119 = .ok (.iastore, 1) := by decide +kernel
theorem dX7_init_120 : decode cX7_init 120 = .ok (.aload_n 0, 1) := by decide +kernel
theorem dX7_init_121 : decode cX7_init 121 = .ok (.getfield 7, 3) := by decide +kernel
theorem dX7_init_124 : decode cX7_init 124 = .ok (.iconst 1, 1) := by decide +kernel
theorem dX7_init_125 : decode cX7_init 125 = .ok (.iconst 5, 1) := by decide +kernel
theorem dX7_init_126 : decode cX7_init 126 = .ok (.iastore, 1) := by decide +kernel
theorem dX7_init_127 : decode cX7_init 127 = .ok (.aload_n 0, 1) := by decide +kernel
theorem dX7_init_128 : decode cX7_init 128 = .ok (.getfield 7, 3) := by decide +kernel
theorem dX7_init_131 : decode cX7_init 131 = .ok (.iconst 4, 1) := by decide +kernel
theorem dX7_init_132 : decode cX7_init 132 = .ok (.bipush (-4), 2) := by decide +kernel
theorem dX7_init_134 : decode cX7_init 134 = .ok (.iastore, 1) := by decide +kernel
theorem dX7_init_135 : decode cX7_init 135 = .ok (.iconst 0, 1) := by decide +kernel
theorem dX7_init_136 : decode cX7_init 136 = .ok (.istore_n 1, 1) := by decide +kernel
theorem dX7_init_137 : decode cX7_init 137 = .ok (.iload_n 1, 1) := by decide +kernel
theorem dX7_init_138 : decode cX7_init 138 = .ok (.iconst 4, 1) := by decide +kernel
theorem dX7_init_139 : decode cX7_init 139 = .ok (.if_icmp .ge 16, 3) := by decide +kernel
theorem dX7_init_142 : decode cX7_init 142 = .ok (.aload_n 0, 1) := by decide +kernel
theorem dX7_init_143 : decode cX7_init 143 = .ok (.getfield 23, 3) := by decide +kernel
theorem dX7_init_146 : decode cX7_init 146 = .ok (.iload_n 1, 1) := by decide +kernel
theorem dX7_init_147 : decode cX7_init 147 = .ok (.iconst (-1), 1) := by decide +kernel
theorem dX7_init_148 : decode cX7_init 148 = .ok (.iastore, 1) := by decide +kernel
theorem dX7_init_149 : decode cX7_init 149 = .ok (.iinc 1 1, 3) := by decide +kernel
theorem dX7_init_152 : decode cX7_init 152 = .ok (.goto (-15), 3) := by decide +kernel
theorem dX7_init_155 : decode cX7_init 155 = .ok (.return_, 1) := by decide +kernel
theorem dX7_in_0 : decode cX7_in 0 = .ok (.lload_n 0, 1) := by decide +kernel
theorem dX7_in_1 : decode cX7_in 1 = .ok (.lload_n 2, 1) := by decide +kernel
theorem dX7_in_2 : decode cX7_in 2 = .ok (.lcmp, 1) := by decide +kernel
theorem dX7_in_3 : decode cX7_in 3 = .ok (.ifCond .lt 14, 3) := by decide +kernel
theorem dX7_in_6 : decode cX7_in 6 = .ok (.lload_n 0, 1) := by decide +kernel
theorem dX7_in_7 : decode cX7_in 7 = .ok (.lload 4, 2) := by decide +kernel
theorem dX7_in_9 : decode cX7_in 9 = .ok (.lcmp, 1) := by decide +kernel
theorem dX7_in_10 : decode cX7_in 10 = .ok (.ifCond .gt 7, 3) := by decide +kernel
theorem dX7_in_13 : decode cX7_in 13 = .ok (.iconst 1, 1) := by decide +kernel
theorem dX7_in_14 : decode cX7_in 14 = .ok (.goto 4, 3) := by decide +kernel
theorem dX7_in_17 : decode cX7_in 17 = .ok (.iconst 0, 1) := by decide +kernel
theorem dX7_in_18 : decode cX7_in 18 = .ok (.ireturn, 1) := by decide +kernel
theorem dX7_copyRing_0 : decode cX7_copyRing 0 = .ok (.iconst 0, 1) := by decide +kernel
theorem dX7_copyRing_1 : decode cX7_copyRing 1 = .ok (.istore_n 3, 1) := by decide +kernel
theorem dX7_copyRing_2 : decode cX7_copyRing 2 = .ok (.iload_n 3, 1) := by decide +kernel
theorem dX7_copyRing_3 : decode cX7_copyRing 3 = .ok (.sipush 640, 3) := by decide +kernel
theorem dX7_copyRing_6 : decode cX7_copyRing 6 = .ok (.if_icmp .ge 33, 3) := by decide +kernel
theorem dX7_copyRing_9 : decode cX7_copyRing 9 = .ok (.aload_n 0, 1) := by decide +kernel
theorem dX7_copyRing_10 : decode cX7_copyRing 10 = .ok (.getfield 7, 3) := by decide +kernel
theorem dX7_copyRing_13 : decode cX7_copyRing 13 = .ok (.sipush 640, 3) := by decide +kernel
theorem dX7_copyRing_16 : decode cX7_copyRing 16 = .ok (.iload_n 1, 1) := by decide +kernel
theorem dX7_copyRing_17 : decode cX7_copyRing 17 = .ok (.imul, 1) := by decide +kernel
theorem dX7_copyRing_18 : decode cX7_copyRing 18 = .ok (.iload_n 3, 1) := by decide +kernel
theorem dX7_copyRing_19 : decode cX7_copyRing 19 = .ok (.iadd, 1) := by decide +kernel
theorem dX7_copyRing_20 : decode cX7_copyRing 20 = .ok (.aload_n 0, 1) := by decide +kernel
theorem dX7_copyRing_21 : decode cX7_copyRing 21 = .ok (.getfield 7, 3) := by decide +kernel
theorem dX7_copyRing_24 : decode cX7_copyRing 24 = .ok (.sipush 640, 3) := by decide +kernel
theorem dX7_copyRing_27 : decode cX7_copyRing 27 = .ok (.iload_n 2, 1) := by decide +kernel
theorem dX7_copyRing_28 : decode cX7_copyRing 28 = .ok (.imul, 1) := by decide +kernel
theorem dX7_copyRing_29 : decode cX7_copyRing 29 = .ok (.iload_n 3, 1) := by decide +kernel
theorem dX7_copyRing_30 : decode cX7_copyRing 30 = .ok (.iadd, 1) := by decide +kernel
theorem dX7_copyRing_31 : decode cX7_copyRing 31 = .ok (.iaload, 1) := by decide +kernel
theorem dX7_copyRing_32 : decode cX7_copyRing 32 = .ok (.iastore, 1) := by decide +kernel
theorem dX7_copyRing_33 : decode cX7_copyRing 33 = .ok (.iinc 3 1, 3) := by decide +kernel
theorem dX7_copyRing_36 : decode cX7_copyRing 36 = .ok (.goto (-34), 3) := by decide +kernel
theorem dX7_copyRing_39 : decode cX7_copyRing 39 = .ok (.return_, 1) := by decide +kernel
theorem dX7_at_0 : decode cX7_at 0 = .ok (.sipush 640, 3) := by decide +kernel
theorem dX7_at_3 : decode cX7_at 3 = .ok (.iload_n 0, 1) := by decide +kernel
theorem dX7_at_4 : decode cX7_at 4 = .ok (.imul, 1) := by decide +kernel
theorem dX7_at_5 : decode cX7_at 5 = .ok (.sipush 340, 3) := by decide +kernel
theorem dX7_at_8 : decode cX7_at 8 = .ok (.iadd, 1) := by decide +kernel
theorem dX7_at_9 : decode cX7_at 9 = .ok (.bipush 24, 2) := by decide +kernel
theorem dX7_at_11 : decode cX7_at 11 = .ok (.iload_n 1, 1) := by decide +kernel
theorem dX7_at_12 : decode cX7_at 12 = .ok (.imul, 1) := by decide +kernel
theorem dX7_at_13 : decode cX7_at 13 = .ok (.iadd, 1) := by decide +kernel
theorem dX7_at_14 : decode cX7_at 14 = .ok (.iload_n 2, 1) := by decide +kernel
theorem dX7_at_15 : decode cX7_at 15 = .ok (.iadd, 1) := by decide +kernel
theorem dX7_at_16 : decode cX7_at 16 = .ok (.ireturn, 1) := by decide +kernel
theorem dX7_of_0 : decode cX7_of 0 = .ok (.aload_n 0, 1) := by decide +kernel
theorem dX7_of_1 : decode cX7_of 1 = .ok (.getfield 7, 3) := by decide +kernel
theorem dX7_of_4 : decode cX7_of 4 = .ok (.sipush 640, 3) := by decide +kernel
theorem dX7_of_7 : decode cX7_of 7 = .ok (.iload_n 1, 1) := by decide +kernel
theorem dX7_of_8 : decode cX7_of 8 = .ok (.imul, 1) := by decide +kernel
theorem dX7_of_9 : decode cX7_of 9 = .ok (.sipush 340, 3) := by decide +kernel
theorem dX7_of_12 : decode cX7_of 12 = .ok (.iadd, 1) := by decide +kernel
theorem dX7_of_13 : decode cX7_of 13 = .ok (.bipush 24, 2) := by decide +kernel
theorem dX7_of_15 : decode cX7_of 15 = .ok (.iload_n 2, 1) := by decide +kernel
theorem dX7_of_16 : decode cX7_of 16 = .ok (.imul, 1) := by decide +kernel
theorem dX7_of_17 : decode cX7_of 17 = .ok (.iadd, 1) := by decide +kernel
theorem dX7_of_18 : decode cX7_of 18 = .ok (.iload_n 3, 1) := by decide +kernel
theorem dX7_of_19 : decode cX7_of 19 = .ok (.iadd, 1) := by decide +kernel
theorem dX7_of_20 : decode cX7_of 20 = .ok (.iaload, 1) := by decide +kernel
theorem dX7_of_21 : decode cX7_of 21 = .ok (.ireturn, 1) := by decide +kernel
theorem dX7_isCar_0 : decode cX7_isCar 0 = .ok (.iload_n 1, 1) := by decide +kernel
theorem dX7_isCar_1 : decode cX7_isCar 1 = .ok (.i2l, 1) := by decide +kernel
theorem dX7_isCar_2 : decode cX7_isCar 2 = .ok (.lconst 0, 1) := by decide +kernel
theorem dX7_isCar_3 : decode cX7_isCar 3 = .ok (.aload_n 0, 1) := by decide +kernel
theorem dX7_isCar_4 : decode cX7_isCar 4 = .ok (.getfield 7, 3) := by decide +kernel
theorem dX7_isCar_7 : decode cX7_isCar 7 = .ok (.iconst 2, 1) := by decide +kernel
theorem dX7_isCar_8 : decode cX7_isCar 8 = .ok (.iaload, 1) := by decide +kernel
theorem dX7_isCar_9 : decode cX7_isCar 9 = .ok (.iconst 1, 1) := by decide +kernel
theorem dX7_isCar_10 : decode cX7_isCar 10 = .ok (.isub, 1) := by decide +kernel
theorem dX7_isCar_11 : decode cX7_isCar 11 = .ok (.i2l, 1) := by decide +kernel
theorem dX7_isCar_12 : decode cX7_isCar 12 = .ok (.invokestatic 53, 3) := by decide +kernel
theorem dX7_isCar_15 : decode cX7_isCar 15 = .ok (.ireturn, 1) := by decide +kernel
theorem dX7_on_0 : decode cX7_on 0 = .ok (.aload_n 0, 1) := by decide +kernel
theorem dX7_on_1 : decode cX7_on 1 = .ok (.getfield 7, 3) := by decide +kernel
theorem dX7_on_4 : decode cX7_on 4 = .ok (.sipush 640, 3) := by decide +kernel
theorem dX7_on_7 : decode cX7_on 7 = .ok (.iload_n 1, 1) := by decide +kernel
theorem dX7_on_8 : decode cX7_on 8 = .ok (.imul, 1) := by decide +kernel
theorem dX7_on_9 : decode cX7_on 9 = .ok (.iconst 0, 1) := by decide +kernel
theorem dX7_on_10 : decode cX7_on 10 = .ok (.iadd, 1) := by decide +kernel
theorem dX7_on_11 : decode cX7_on 11 = .ok (.iaload, 1) := by decide +kernel
theorem dX7_on_12 : decode cX7_on 12 = .ok (.istore 4, 2) := by decide +kernel
theorem dX7_on_14 : decode cX7_on 14 = .ok (.iload_n 3, 1) := by decide +kernel
theorem dX7_on_15 : decode cX7_on 15 = .ok (.iload_n 2, 1) := by decide +kernel
theorem dX7_on_16 : decode cX7_on 16 = .ok (.isub, 1) := by decide +kernel
theorem dX7_on_17 : decode cX7_on 17 = .ok (.iload 4, 2) := by decide +kernel
theorem dX7_on_19 : decode cX7_on 19 = .ok (.iadd, 1) := by decide +kernel
theorem dX7_on_20 : decode cX7_on 20 = .ok (.iload 4, 2) := by decide +kernel
theorem dX7_on_22 : decode cX7_on 22 = .ok (.irem, 1) := by decide +kernel
theorem dX7_on_23 : decode cX7_on 23 = .ok (.ireturn, 1) := by decide +kernel
theorem dX7_carAt_0 : decode cX7_carAt 0 = .ok (.iconst 0, 1) := by decide +kernel
theorem dX7_carAt_1 : decode cX7_carAt 1 = .ok (.istore 4, 2) := by decide +kernel
theorem dX7_carAt_3 : decode cX7_carAt 3 = .ok (.iload 4, 2) := by decide +kernel
theorem dX7_carAt_5 : decode cX7_carAt 5 = .ok (.aload_n 0, 1) := by decide +kernel
theorem dX7_carAt_6 : decode cX7_carAt 6 = .ok (.getfield 7, 3) := by decide +kernel
theorem dX7_carAt_9 : decode cX7_carAt 9 = .ok (.sipush 640, 3) := by decide +kernel
theorem dX7_carAt_12 : decode cX7_carAt 12 = .ok (.iload_n 1, 1) := by decide +kernel
theorem dX7_carAt_13 : decode cX7_carAt 13 = .ok (.imul, 1) := by decide +kernel
theorem dX7_carAt_14 : decode cX7_carAt 14 = .ok (.iconst 2, 1) := by decide +kernel
theorem dX7_carAt_15 : decode cX7_carAt 15 = .ok (.iadd, 1) := by decide +kernel
theorem dX7_carAt_16 : decode cX7_carAt 16 = .ok (.iaload, 1) := by decide +kernel
theorem dX7_carAt_17 : decode cX7_carAt 17 = .ok (.if_icmp .ge 36, 3) := by decide +kernel
theorem dX7_carAt_20 : decode cX7_carAt 20 = .ok (.aload_n 0, 1) := by decide +kernel
theorem dX7_carAt_21 : decode cX7_carAt 21 = .ok (.iload_n 1, 1) := by decide +kernel
theorem dX7_carAt_22 : decode cX7_carAt 22 = .ok (.iload 4, 2) := by decide +kernel
theorem dX7_carAt_24 : decode cX7_carAt 24 = .ok (.iconst 1, 1) := by decide +kernel
theorem dX7_carAt_25 : decode cX7_carAt 25 = .ok (.invokevirtual 57, 3) := by decide +kernel
theorem dX7_carAt_28 : decode cX7_carAt 28 = .ok (.iload_n 2, 1) := by decide +kernel
theorem dX7_carAt_29 : decode cX7_carAt 29 = .ok (.if_icmp .ne 18, 3) := by decide +kernel
theorem dX7_carAt_32 : decode cX7_carAt 32 = .ok (.aload_n 0, 1) := by decide +kernel
theorem dX7_carAt_33 : decode cX7_carAt 33 = .ok (.iload_n 1, 1) := by decide +kernel
theorem dX7_carAt_34 : decode cX7_carAt 34 = .ok (.iload 4, 2) := by decide +kernel
theorem dX7_carAt_36 : decode cX7_carAt 36 = .ok (.iconst 0, 1) := by decide +kernel
theorem dX7_carAt_37 : decode cX7_carAt 37 = .ok (.invokevirtual 57, 3) := by decide +kernel
theorem dX7_carAt_40 : decode cX7_carAt 40 = .ok (.iload_n 3, 1) := by decide +kernel
theorem dX7_carAt_41 : decode cX7_carAt 41 = .ok (.if_icmp .ne 6, 3) := by decide +kernel
theorem dX7_carAt_44 : decode cX7_carAt 44 = .ok (.iload 4, 2) := by decide +kernel
theorem dX7_carAt_46 : decode cX7_carAt 46 = .ok (.ireturn, 1) := by decide +kernel
theorem dX7_carAt_47 : decode cX7_carAt 47 = .ok (.iinc 4 1, 3) := by decide +kernel
theorem dX7_carAt_50 : decode cX7_carAt 50 = .ok (.goto (-47), 3) := by decide +kernel
theorem dX7_carAt_53 : decode cX7_carAt 53 = .ok (.iconst (-1), 1) := by decide +kernel
theorem dX7_carAt_54 : decode cX7_carAt 54 = .ok (.ireturn, 1) := by decide +kernel
theorem dX7_ahead_0 : decode cX7_ahead 0 = .ok (.iload_n 2, 1) := by decide +kernel
theorem dX7_ahead_1 : decode cX7_ahead 1 = .ok (.istore_n 3, 1) := by decide +kernel
theorem dX7_ahead_2 : decode cX7_ahead 2 = .ok (.aload_n 0, 1) := by decide +kernel
theorem dX7_ahead_3 : decode cX7_ahead 3 = .ok (.getfield 7, 3) := by decide +kernel
theorem dX7_ahead_6 : decode cX7_ahead 6 = .ok (.sipush 640, 3) := by decide +kernel
theorem dX7_ahead_9 : decode cX7_ahead 9 = .ok (.iload_n 1, 1) := by decide +kernel
theorem dX7_ahead_10 : decode cX7_ahead 10 = .ok (.imul, 1) := by decide +kernel
theorem dX7_ahead_11 : decode cX7_ahead 11 = .ok (.iconst 0, 1) := by decide +kernel
theorem dX7_ahead_12 : decode cX7_ahead 12 = .ok (.iadd, 1) := by decide +kernel
theorem dX7_ahead_13 : decode cX7_ahead 13 = .ok (.iaload, 1) := by decide +kernel
theorem dX7_ahead_14 : decode cX7_ahead 14 = .ok (.istore 4, 2) := by decide +kernel
theorem dX7_ahead_16 : decode cX7_ahead 16 = .ok (.iconst 0, 1) := by decide +kernel
theorem dX7_ahead_17 : decode cX7_ahead 17 = .ok (.istore 5, 2) := by decide +kernel
theorem dX7_ahead_19 : decode cX7_ahead 19 = .ok (.iload 5, 2) := by decide +kernel
theorem dX7_ahead_21 : decode cX7_ahead 21 = .ok (.aload_n 0, 1) := by decide +kernel
theorem dX7_ahead_22 : decode cX7_ahead 22 = .ok (.getfield 7, 3) := by decide +kernel
theorem dX7_ahead_25 : decode cX7_ahead 25 = .ok (.sipush 640, 3) := by decide +kernel
theorem dX7_ahead_28 : decode cX7_ahead 28 = .ok (.iload_n 1, 1) := by decide +kernel
theorem dX7_ahead_29 : decode cX7_ahead 29 = .ok (.imul, 1) := by decide +kernel
theorem dX7_ahead_30 : decode cX7_ahead 30 = .ok (.iconst 2, 1) := by decide +kernel
theorem dX7_ahead_31 : decode cX7_ahead 31 = .ok (.iadd, 1) := by decide +kernel
theorem dX7_ahead_32 : decode cX7_ahead 32 = .ok (.iaload, 1) := by decide +kernel
theorem dX7_ahead_33 : decode cX7_ahead 33 = .ok (.if_icmp .ge 69, 3) := by decide +kernel
theorem dX7_ahead_36 : decode cX7_ahead 36 = .ok (.aload_n 0, 1) := by decide +kernel
theorem dX7_ahead_37 : decode cX7_ahead 37 = .ok (.iload_n 1, 1) := by decide +kernel
theorem dX7_ahead_38 : decode cX7_ahead 38 = .ok (.aload_n 0, 1) := by decide +kernel
theorem dX7_ahead_39 : decode cX7_ahead 39 = .ok (.iload_n 1, 1) := by decide +kernel
theorem dX7_ahead_40 : decode cX7_ahead 40 = .ok (.iload_n 2, 1) := by decide +kernel
theorem dX7_ahead_41 : decode cX7_ahead 41 = .ok (.iconst 0, 1) := by decide +kernel
theorem dX7_ahead_42 : decode cX7_ahead 42 = .ok (.invokevirtual 57, 3) := by decide +kernel
theorem dX7_ahead_45 : decode cX7_ahead 45 = .ok (.aload_n 0, 1) := by decide +kernel
theorem dX7_ahead_46 : decode cX7_ahead 46 = .ok (.iload_n 1, 1) := by decide +kernel
theorem dX7_ahead_47 : decode cX7_ahead 47 = .ok (.iload 5, 2) := by decide +kernel
theorem dX7_ahead_49 : decode cX7_ahead 49 = .ok (.iconst 0, 1) := by decide +kernel
theorem dX7_ahead_50 : decode cX7_ahead 50 = .ok (.invokevirtual 57, 3) := by decide +kernel
theorem dX7_ahead_53 : decode cX7_ahead 53 = .ok (.invokevirtual 61, 3) := by decide +kernel
theorem dX7_ahead_56 : decode cX7_ahead 56 = .ok (.istore 6, 2) := by decide +kernel
theorem dX7_ahead_58 : decode cX7_ahead 58 = .ok (.iload 5, 2) := by decide +kernel
theorem dX7_ahead_60 : decode cX7_ahead 60 = .ok (.iload_n 2, 1) := by decide +kernel
theorem dX7_ahead_61 : decode cX7_ahead 61 = .ok (.if_icmp .eq 35, 3) := by decide +kernel
theorem dX7_ahead_64 : decode cX7_ahead 64 = .ok (.aload_n 0, 1) := by decide +kernel
theorem dX7_ahead_65 : decode cX7_ahead 65 = .ok (.iload_n 1, 1) := by decide +kernel
theorem dX7_ahead_66 : decode cX7_ahead 66 = .ok (.iload 5, 2) := by decide +kernel
theorem dX7_ahead_68 : decode cX7_ahead 68 = .ok (.iconst 1, 1) := by decide +kernel
theorem dX7_ahead_69 : decode cX7_ahead 69 = .ok (.invokevirtual 57, 3) := by decide +kernel
theorem dX7_ahead_72 : decode cX7_ahead 72 = .ok (.aload_n 0, 1) := by decide +kernel
theorem dX7_ahead_73 : decode cX7_ahead 73 = .ok (.iload_n 1, 1) := by decide +kernel
theorem dX7_ahead_74 : decode cX7_ahead 74 = .ok (.iload_n 2, 1) := by decide +kernel
theorem dX7_ahead_75 : decode cX7_ahead 75 = .ok (.iconst 1, 1) := by decide +kernel
theorem dX7_ahead_76 : decode cX7_ahead 76 = .ok (.invokevirtual 57, 3) := by decide +kernel
theorem dX7_ahead_79 : decode cX7_ahead 79 = .ok (.if_icmp .ne 17, 3) := by decide +kernel
theorem dX7_ahead_82 : decode cX7_ahead 82 = .ok (.iload 6, 2) := by decide +kernel
theorem dX7_ahead_84 : decode cX7_ahead 84 = .ok (.iload 4, 2) := by decide +kernel
theorem dX7_ahead_86 : decode cX7_ahead 86 = .ok (.if_icmp .ge 10, 3) := by decide +kernel
theorem dX7_ahead_89 : decode cX7_ahead 89 = .ok (.iload 6, 2) := by decide +kernel
theorem dX7_ahead_91 : decode cX7_ahead 91 = .ok (.istore 4, 2) := by decide +kernel
theorem dX7_ahead_93 : decode cX7_ahead 93 = .ok (.iload 5, 2) := by decide +kernel
theorem dX7_ahead_95 : decode cX7_ahead 95 = .ok (.istore_n 3, 1) := by decide +kernel
theorem dX7_ahead_96 : decode cX7_ahead 96 = .ok (.iinc 5 1, 3) := by decide +kernel
theorem dX7_ahead_99 : decode cX7_ahead 99 = .ok (.goto (-80), 3) := by decide +kernel
theorem dX7_ahead_102 : decode cX7_ahead 102 = .ok (.iload_n 3, 1) := by decide +kernel
theorem dX7_ahead_103 : decode cX7_ahead 103 = .ok (.ireturn, 1) := by decide +kernel
theorem dX7_gap_0 : decode cX7_gap 0 = .ok (.aload_n 0, 1) := by decide +kernel
theorem dX7_gap_1 : decode cX7_gap 1 = .ok (.iload_n 1, 1) := by decide +kernel
theorem dX7_gap_2 : decode cX7_gap 2 = .ok (.iload_n 2, 1) := by decide +kernel
theorem dX7_gap_3 : decode cX7_gap 3 = .ok (.invokevirtual 64, 3) := by decide +kernel
theorem dX7_gap_6 : decode cX7_gap 6 = .ok (.istore_n 3, 1) := by decide +kernel
theorem dX7_gap_7 : decode cX7_gap 7 = .ok (.iload_n 3, 1) := by decide +kernel
theorem dX7_gap_8 : decode cX7_gap 8 = .ok (.iload_n 2, 1) := by decide +kernel
theorem dX7_gap_9 : decode cX7_gap 9 = .ok (.if_icmp .ne 20, 3) := by decide +kernel
theorem dX7_gap_12 : decode cX7_gap 12 = .ok (.aload_n 0, 1) := by decide +kernel
theorem dX7_gap_13 : decode cX7_gap 13 = .ok (.getfield 7, 3) := by decide +kernel
theorem dX7_gap_16 : decode cX7_gap 16 = .ok (.sipush 640, 3) := by decide +kernel
theorem dX7_gap_19 : decode cX7_gap 19 = .ok (.iload_n 1, 1) := by decide +kernel
theorem dX7_gap_20 : decode cX7_gap 20 = .ok (.imul, 1) := by decide +kernel
theorem dX7_gap_21 : decode cX7_gap 21 = .ok (.iconst 0, 1) := by decide +kernel
theorem dX7_gap_22 : decode cX7_gap 22 = .ok (.iadd, 1) := by decide +kernel
theorem dX7_gap_23 : decode cX7_gap 23 = .ok (.iaload, 1) := by decide +kernel
theorem dX7_gap_24 : decode cX7_gap 24 = .ok (.iconst 1, 1) := by decide +kernel
theorem dX7_gap_25 : decode cX7_gap 25 = .ok (.isub, 1) := by decide +kernel
theorem dX7_gap_26 : decode cX7_gap 26 = .ok (.goto 24, 3) := by decide +kernel
theorem dX7_gap_29 : decode cX7_gap 29 = .ok (.aload_n 0, 1) := by decide +kernel
theorem dX7_gap_30 : decode cX7_gap 30 = .ok (.iload_n 1, 1) := by decide +kernel
theorem dX7_gap_31 : decode cX7_gap 31 = .ok (.aload_n 0, 1) := by decide +kernel
theorem dX7_gap_32 : decode cX7_gap 32 = .ok (.iload_n 1, 1) := by decide +kernel
theorem dX7_gap_33 : decode cX7_gap 33 = .ok (.iload_n 2, 1) := by decide +kernel
theorem dX7_gap_34 : decode cX7_gap 34 = .ok (.iconst 0, 1) := by decide +kernel
theorem dX7_gap_35 : decode cX7_gap 35 = .ok (.invokevirtual 57, 3) := by decide +kernel
theorem dX7_gap_38 : decode cX7_gap 38 = .ok (.aload_n 0, 1) := by decide +kernel
theorem dX7_gap_39 : decode cX7_gap 39 = .ok (.iload_n 1, 1) := by decide +kernel
theorem dX7_gap_40 : decode cX7_gap 40 = .ok (.iload_n 3, 1) := by decide +kernel
theorem dX7_gap_41 : decode cX7_gap 41 = .ok (.iconst 0, 1) := by decide +kernel
theorem dX7_gap_42 : decode cX7_gap 42 = .ok (.invokevirtual 57, 3) := by decide +kernel
theorem dX7_gap_45 : decode cX7_gap 45 = .ok (.invokevirtual 61, 3) := by decide +kernel
theorem dX7_gap_48 : decode cX7_gap 48 = .ok (.iconst 1, 1) := by decide +kernel
theorem dX7_gap_49 : decode cX7_gap 49 = .ok (.isub, 1) := by decide +kernel
theorem dX7_gap_50 : decode cX7_gap 50 = .ok (.ireturn, 1) := by decide +kernel
theorem dX7_other_0 : decode cX7_other 0 = .ok (.aload_n 0, 1) := by decide +kernel
theorem dX7_other_1 : decode cX7_other 1 = .ok (.getfield 7, 3) := by decide +kernel
theorem dX7_other_4 : decode cX7_other 4 = .ok (.sipush 640, 3) := by decide +kernel
theorem dX7_other_7 : decode cX7_other 7 = .ok (.iload_n 1, 1) := by decide +kernel
theorem dX7_other_8 : decode cX7_other 8 = .ok (.imul, 1) := by decide +kernel
theorem dX7_other_9 : decode cX7_other 9 = .ok (.iconst 0, 1) := by decide +kernel
theorem dX7_other_10 : decode cX7_other 10 = .ok (.iadd, 1) := by decide +kernel
theorem dX7_other_11 : decode cX7_other 11 = .ok (.iaload, 1) := by decide +kernel
theorem dX7_other_12 : decode cX7_other 12 = .ok (.istore_n 3, 1) := by decide +kernel
theorem dX7_other_13 : decode cX7_other 13 = .ok (.iconst 0, 1) := by decide +kernel
theorem dX7_other_14 : decode cX7_other 14 = .ok (.istore 4, 2) := by decide +kernel
theorem dX7_other_16 : decode cX7_other 16 = .ok (.iload 4, 2) := by decide +kernel
theorem dX7_other_18 : decode cX7_other 18 = .ok (.aload_n 0, 1) := by decide +kernel
theorem dX7_other_19 : decode cX7_other 19 = .ok (.getfield 7, 3) := by decide +kernel
theorem dX7_other_22 : decode cX7_other 22 = .ok (.sipush 640, 3) := by decide +kernel
theorem dX7_other_25 : decode cX7_other 25 = .ok (.iload_n 1, 1) := by decide +kernel
theorem dX7_other_26 : decode cX7_other 26 = .ok (.imul, 1) := by decide +kernel
theorem dX7_other_27 : decode cX7_other 27 = .ok (.iconst 2, 1) := by decide +kernel
theorem dX7_other_28 : decode cX7_other 28 = .ok (.iadd, 1) := by decide +kernel
theorem dX7_other_29 : decode cX7_other 29 = .ok (.iaload, 1) := by decide +kernel
theorem dX7_other_30 : decode cX7_other 30 = .ok (.if_icmp .ge 62, 3) := by decide +kernel
theorem dX7_other_33 : decode cX7_other 33 = .ok (.aload_n 0, 1) := by decide +kernel
theorem dX7_other_34 : decode cX7_other 34 = .ok (.iload_n 1, 1) := by decide +kernel
theorem dX7_other_35 : decode cX7_other 35 = .ok (.aload_n 0, 1) := by decide +kernel
theorem dX7_other_36 : decode cX7_other 36 = .ok (.iload_n 1, 1) := by decide +kernel
theorem dX7_other_37 : decode cX7_other 37 = .ok (.iload_n 2, 1) := by decide +kernel
theorem dX7_other_38 : decode cX7_other 38 = .ok (.iconst 0, 1) := by decide +kernel
theorem dX7_other_39 : decode cX7_other 39 = .ok (.invokevirtual 57, 3) := by decide +kernel
theorem dX7_other_42 : decode cX7_other 42 = .ok (.aload_n 0, 1) := by decide +kernel
theorem dX7_other_43 : decode cX7_other 43 = .ok (.iload_n 1, 1) := by decide +kernel
theorem dX7_other_44 : decode cX7_other 44 = .ok (.iload 4, 2) := by decide +kernel
theorem dX7_other_46 : decode cX7_other 46 = .ok (.iconst 0, 1) := by decide +kernel
theorem dX7_other_47 : decode cX7_other 47 = .ok (.invokevirtual 57, 3) := by decide +kernel
theorem dX7_other_50 : decode cX7_other 50 = .ok (.invokevirtual 61, 3) := by decide +kernel
theorem dX7_other_53 : decode cX7_other 53 = .ok (.istore 5, 2) := by decide +kernel
theorem dX7_other_55 : decode cX7_other 55 = .ok (.aload_n 0, 1) := by decide +kernel
theorem dX7_other_56 : decode cX7_other 56 = .ok (.iload_n 1, 1) := by decide +kernel
theorem dX7_other_57 : decode cX7_other 57 = .ok (.iload 4, 2) := by decide +kernel
theorem dX7_other_59 : decode cX7_other 59 = .ok (.iconst 1, 1) := by decide +kernel
theorem dX7_other_60 : decode cX7_other 60 = .ok (.invokevirtual 57, 3) := by decide +kernel
theorem dX7_other_63 : decode cX7_other 63 = .ok (.aload_n 0, 1) := by decide +kernel
theorem dX7_other_64 : decode cX7_other 64 = .ok (.iload_n 1, 1) := by decide +kernel
theorem dX7_other_65 : decode cX7_other 65 = .ok (.iload_n 2, 1) := by decide +kernel
theorem dX7_other_66 : decode cX7_other 66 = .ok (.iconst 1, 1) := by decide +kernel
theorem dX7_other_67 : decode cX7_other 67 = .ok (.invokevirtual 57, 3) := by decide +kernel
theorem dX7_other_70 : decode cX7_other 70 = .ok (.if_icmp .eq 14, 3) := by decide +kernel
theorem dX7_other_73 : decode cX7_other 73 = .ok (.iload 5, 2) := by decide +kernel
theorem dX7_other_75 : decode cX7_other 75 = .ok (.iload_n 3, 1) := by decide +kernel
theorem dX7_other_76 : decode cX7_other 76 = .ok (.if_icmp .ge 8, 3) := by decide +kernel
theorem dX7_other_79 : decode cX7_other 79 = .ok (.iload 5, 2) := by decide +kernel
theorem dX7_other_81 : decode cX7_other 81 = .ok (.goto 4, 3) := by decide +kernel
theorem dX7_other_84 : decode cX7_other 84 = .ok (.iload_n 3, 1) := by decide +kernel
theorem dX7_other_85 : decode cX7_other 85 = .ok (.istore_n 3, 1) := by decide +kernel
theorem dX7_other_86 : decode cX7_other 86 = .ok (.iinc 4 1, 3) := by decide +kernel
theorem dX7_other_89 : decode cX7_other 89 = .ok (.goto (-73), 3) := by decide +kernel
theorem dX7_other_92 : decode cX7_other 92 = .ok (.iload_n 3, 1) := by decide +kernel
theorem dX7_other_93 : decode cX7_other 93 = .ok (.ireturn, 1) := by decide +kernel
theorem dX7_slower_0 : decode cX7_slower 0 = .ok (.aload_n 0, 1) := by decide +kernel
theorem dX7_slower_1 : decode cX7_slower 1 = .ok (.iload_n 1, 1) := by decide +kernel
theorem dX7_slower_2 : decode cX7_slower 2 = .ok (.aload_n 0, 1) := by decide +kernel
theorem dX7_slower_3 : decode cX7_slower 3 = .ok (.iload_n 1, 1) := by decide +kernel
theorem dX7_slower_4 : decode cX7_slower 4 = .ok (.iload_n 2, 1) := by decide +kernel
theorem dX7_slower_5 : decode cX7_slower 5 = .ok (.invokevirtual 64, 3) := by decide +kernel
theorem dX7_slower_8 : decode cX7_slower 8 = .ok (.iconst 2, 1) := by decide +kernel
theorem dX7_slower_9 : decode cX7_slower 9 = .ok (.invokevirtual 57, 3) := by decide +kernel
theorem dX7_slower_12 : decode cX7_slower 12 = .ok (.aload_n 0, 1) := by decide +kernel
theorem dX7_slower_13 : decode cX7_slower 13 = .ok (.iload_n 1, 1) := by decide +kernel
theorem dX7_slower_14 : decode cX7_slower 14 = .ok (.iload_n 2, 1) := by decide +kernel
theorem dX7_slower_15 : decode cX7_slower 15 = .ok (.iconst 2, 1) := by decide +kernel
theorem dX7_slower_16 : decode cX7_slower 16 = .ok (.invokevirtual 57, 3) := by decide +kernel
theorem dX7_slower_19 : decode cX7_slower 19 = .ok (.isub, 1) := by decide +kernel
theorem dX7_slower_20 : decode cX7_slower 20 = .ok (.ireturn, 1) := by decide +kernel
theorem dX7_ring_0 : decode cX7_ring 0 = .ok (.iload_n 1, 1) := by decide +kernel
theorem dX7_ring_1 : decode cX7_ring 1 = .ok (.i2l, 1) := by decide +kernel
theorem dX7_ring_2 : decode cX7_ring 2 = .ok (.lconst 0, 1) := by decide +kernel
theorem dX7_ring_3 : decode cX7_ring 3 = .ok (.lconst 1, 1) := by decide +kernel
theorem dX7_ring_4 : decode cX7_ring 4 = .ok (.invokestatic 53, 3) := by decide +kernel
theorem dX7_ring_7 : decode cX7_ring 7 = .ok (.ifCond .eq 35, 3) := by decide +kernel
theorem dX7_ring_10 : decode cX7_ring 10 = .ok (.iload_n 2, 1) := by decide +kernel
theorem dX7_ring_11 : decode cX7_ring 11 = .ok (.i2l, 1) := by decide +kernel
theorem dX7_ring_12 : decode cX7_ring 12 = .ok (.iload_n 1, 1) := by decide +kernel
theorem dX7_ring_13 : decode cX7_ring 13 = .ok (.ifCond .ne 9, 3) := by decide +kernel
theorem dX7_ring_16 : decode cX7_ring 16 = .ok (.ldc2_w 68, 3) := by decide +kernel
theorem dX7_ring_19 : decode cX7_ring 19 = .ok (.goto 4, 3) := by decide +kernel
theorem dX7_ring_22 : decode cX7_ring 22 = .ok (.lconst 1, 1) := by decide +kernel
theorem dX7_ring_23 : decode cX7_ring 23 = .ok (.iload_n 1, 1) := by decide +kernel
theorem dX7_ring_24 : decode cX7_ring 24 = .ok (.ifCond .ne 9, 3) := by decide +kernel
theorem dX7_ring_27 : decode cX7_ring 27 = .ok (.ldc2_w 70, 3) := by decide +kernel
theorem dX7_ring_30 : decode cX7_ring 30 = .ok (.goto 6, 3) := by decide +kernel
theorem dX7_ring_33 : decode cX7_ring 33 = .ok (.ldc2_w 72, 3) := by decide +kernel
theorem dX7_ring_36 : decode cX7_ring 36 = .ok (.invokestatic 53, 3) := by decide +kernel
theorem dX7_ring_39 : decode cX7_ring 39 = .ok (.ifCond .ne 5, 3) := by decide +kernel
theorem dX7_ring_42 : decode cX7_ring 42 = .ok (.iconst (-1), 1) := by decide +kernel
theorem dX7_ring_43 : decode cX7_ring 43 = .ok (.ireturn, 1) := by decide +kernel
theorem dX7_ring_44 : decode cX7_ring 44 = .ok (.iload_n 1, 1) := by decide +kernel
theorem dX7_ring_45 : decode cX7_ring 45 = .ok (.ifCond .ne 34, 3) := by decide +kernel
theorem dX7_ring_48 : decode cX7_ring 48 = .ok (.aload_n 0, 1) := by decide +kernel
theorem dX7_ring_49 : decode cX7_ring 49 = .ok (.getfield 7, 3) := by decide +kernel
theorem dX7_ring_52 : decode cX7_ring 52 = .ok (.iconst 2, 1) := by decide +kernel
theorem dX7_ring_53 : decode cX7_ring 53 = .ok (.iaload, 1) := by decide +kernel
theorem dX7_ring_54 : decode cX7_ring 54 = .ok (.ifCond .gt 22, 3) := by decide +kernel
theorem dX7_ring_57 : decode cX7_ring 57 = .ok (.aload_n 0, 1) := by decide +kernel
theorem dX7_ring_58 : decode cX7_ring 58 = .ok (.getfield 7, 3) := by decide +kernel
theorem dX7_ring_61 : decode cX7_ring 61 = .ok (.iconst 5, 1) := by decide +kernel
theorem dX7_ring_62 : decode cX7_ring 62 = .ok (.iaload, 1) := by decide +kernel
theorem dX7_ring_63 : decode cX7_ring 63 = .ok (.ifCond .gt 13, 3) := by decide +kernel
theorem dX7_ring_66 : decode cX7_ring 66 = .ok (.aload_n 0, 1) := by decide +kernel
theorem dX7_ring_67 : decode cX7_ring 67 = .ok (.getfield 7, 3) := by decide +kernel
theorem dX7_ring_70 : decode cX7_ring 70 = .ok (.bipush 6, 2) := by decide +kernel
theorem dX7_ring_72 : decode cX7_ring 72 = .ok (.iaload, 1) := by decide +kernel
theorem dX7_ring_73 : decode cX7_ring 73 = .ok (.ifCond .le 6, 3) := by decide +kernel
theorem dX7_ring_76 : decode cX7_ring 76 = .ok (.bipush (-2), 2) := by decide +kernel
theorem dX7_ring_78 : decode cX7_ring 78 = .ok (.ireturn, 1) := by decide +kernel
theorem dX7_ring_79 : decode cX7_ring 79 = .ok (.aload_n 0, 1) := by decide +kernel
theorem dX7_ring_80 : decode cX7_ring 80 = .ok (.getfield 7, 3) := by decide +kernel
theorem dX7_ring_83 : decode cX7_ring 83 = .ok (.iload_n 1, 1) := by decide +kernel
theorem dX7_ring_84 : decode cX7_ring 84 = .ok (.iaload, 1) := by decide +kernel
theorem dX7_ring_85 : decode cX7_ring 85 = .ok (.istore_n 3, 1) := by decide +kernel
theorem dX7_ring_86 : decode cX7_ring 86 = .ok (.aload_n 0, 1) := by decide +kernel
theorem dX7_ring_87 : decode cX7_ring 87 = .ok (.getfield 7, 3) := by decide +kernel
theorem dX7_ring_90 : decode cX7_ring 90 = .ok (.iload_n 1, 1) := by decide +kernel
theorem dX7_ring_91 : decode cX7_ring 91 = .ok (.iload_n 2, 1) := by decide +kernel
theorem dX7_ring_92 : decode cX7_ring 92 = .ok (.iastore, 1) := by decide +kernel
theorem dX7_ring_93 : decode cX7_ring 93 = .ok (.iload_n 3, 1) := by decide +kernel
theorem dX7_ring_94 : decode cX7_ring 94 = .ok (.ireturn, 1) := by decide +kernel
theorem dX7_put_0 : decode cX7_put 0 = .ok (.aload_n 0, 1) := by decide +kernel
theorem dX7_put_1 : decode cX7_put 1 = .ok (.getfield 7, 3) := by decide +kernel
theorem dX7_put_4 : decode cX7_put 4 = .ok (.iconst 2, 1) := by decide +kernel
theorem dX7_put_5 : decode cX7_put 5 = .ok (.iaload, 1) := by decide +kernel
theorem dX7_put_6 : decode cX7_put 6 = .ok (.istore 4, 2) := by decide +kernel
theorem dX7_put_8 : decode cX7_put 8 = .ok (.iconst 0, 1) := by decide +kernel
theorem dX7_put_9 : decode cX7_put 9 = .ok (.istore 5, 2) := by decide +kernel
theorem dX7_put_11 : decode cX7_put 11 = .ok (.iload 5, 2) := by decide +kernel
theorem dX7_put_13 : decode cX7_put 13 = .ok (.bipush 24, 2) := by decide +kernel
theorem dX7_put_15 : decode cX7_put 15 = .ok (.if_icmp .ge 23, 3) := by decide +kernel
theorem dX7_put_18 : decode cX7_put 18 = .ok (.aload_n 0, 1) := by decide +kernel
theorem dX7_put_19 : decode cX7_put 19 = .ok (.getfield 7, 3) := by decide +kernel
theorem dX7_put_22 : decode cX7_put 22 = .ok (.iconst 0, 1) := by decide +kernel
theorem dX7_put_23 : decode cX7_put 23 = .ok (.iload 4, 2) := by decide +kernel
theorem dX7_put_25 : decode cX7_put 25 = .ok (.iload 5, 2) := by decide +kernel
theorem dX7_put_27 : decode cX7_put 27 = .ok (.invokestatic 74, 3) := by decide +kernel
theorem dX7_put_30 : decode cX7_put 30 = .ok (.iconst 0, 1) := by decide +kernel
theorem dX7_put_31 : decode cX7_put 31 = .ok (.iastore, 1) := by decide +kernel
theorem dX7_put_32 : decode cX7_put 32 = .ok (.iinc 5 1, 3) := by decide +kernel
theorem dX7_put_35 : decode cX7_put 35 = .ok (.goto (-24), 3) := by decide +kernel
theorem dX7_put_38 : decode cX7_put 38 = .ok (.aload_n 0, 1) := by decide +kernel
theorem dX7_put_39 : decode cX7_put 39 = .ok (.getfield 7, 3) := by decide +kernel
theorem dX7_put_42 : decode cX7_put 42 = .ok (.iconst 0, 1) := by decide +kernel
theorem dX7_put_43 : decode cX7_put 43 = .ok (.iload 4, 2) := by decide +kernel
theorem dX7_put_45 : decode cX7_put 45 = .ok (.iconst 0, 1) := by decide +kernel
theorem dX7_put_46 : decode cX7_put 46 = .ok (.invokestatic 74, 3) := by decide +kernel
theorem dX7_put_49 : decode cX7_put 49 = .ok (.iload_n 2, 1) := by decide +kernel
theorem dX7_put_50 : decode cX7_put 50 = .ok (.iastore, 1) := by decide +kernel
theorem dX7_put_51 : decode cX7_put 51 = .ok (.aload_n 0, 1) := by decide +kernel
theorem dX7_put_52 : decode cX7_put 52 = .ok (.getfield 7, 3) := by decide +kernel
theorem dX7_put_55 : decode cX7_put 55 = .ok (.iconst 0, 1) := by decide +kernel
theorem dX7_put_56 : decode cX7_put 56 = .ok (.iload 4, 2) := by decide +kernel
theorem dX7_put_58 : decode cX7_put 58 = .ok (.iconst 1, 1) := by decide +kernel
theorem dX7_put_59 : decode cX7_put 59 = .ok (.invokestatic 74, 3) := by decide +kernel
theorem dX7_put_62 : decode cX7_put 62 = .ok (.iload_n 1, 1) := by decide +kernel
theorem dX7_put_63 : decode cX7_put 63 = .ok (.iastore, 1) := by decide +kernel
theorem dX7_put_64 : decode cX7_put 64 = .ok (.aload_n 0, 1) := by decide +kernel
theorem dX7_put_65 : decode cX7_put 65 = .ok (.getfield 7, 3) := by decide +kernel
theorem dX7_put_68 : decode cX7_put 68 = .ok (.iconst 0, 1) := by decide +kernel
theorem dX7_put_69 : decode cX7_put 69 = .ok (.iload 4, 2) := by decide +kernel
theorem dX7_put_71 : decode cX7_put 71 = .ok (.iconst 2, 1) := by decide +kernel
theorem dX7_put_72 : decode cX7_put 72 = .ok (.invokestatic 74, 3) := by decide +kernel
theorem dX7_put_75 : decode cX7_put 75 = .ok (.iload_n 3, 1) := by decide +kernel
theorem dX7_put_76 : decode cX7_put 76 = .ok (.iastore, 1) := by decide +kernel
theorem dX7_put_77 : decode cX7_put 77 = .ok (.aload_n 0, 1) := by decide +kernel
theorem dX7_put_78 : decode cX7_put 78 = .ok (.getfield 7, 3) := by decide +kernel
theorem dX7_put_81 : decode cX7_put 81 = .ok (.iconst 2, 1) := by decide +kernel
theorem dX7_put_82 : decode cX7_put 82 = .ok (.dup2, 1) := by decide +kernel
theorem dX7_put_83 : decode cX7_put 83 = .ok (.iaload, 1) := by decide +kernel
theorem dX7_put_84 : decode cX7_put 84 = .ok (.iconst 1, 1) := by decide +kernel
theorem dX7_put_85 : decode cX7_put 85 = .ok (.iadd, 1) := by decide +kernel
theorem dX7_put_86 : decode cX7_put 86 = .ok (.iastore, 1) := by decide +kernel
theorem dX7_put_87 : decode cX7_put 87 = .ok (.return_, 1) := by decide +kernel
theorem dX7_car_0 : decode cX7_car 0 = .ok (.iload_n 1, 1) := by decide +kernel
theorem dX7_car_1 : decode cX7_car 1 = .ok (.i2l, 1) := by decide +kernel
theorem dX7_car_2 : decode cX7_car 2 = .ok (.lconst 0, 1) := by decide +kernel
theorem dX7_car_3 : decode cX7_car 3 = .ok (.lconst 1, 1) := by decide +kernel
theorem dX7_car_4 : decode cX7_car 4 = .ok (.invokestatic 53, 3) := by decide +kernel
theorem dX7_car_7 : decode cX7_car 7 = .ok (.ifCond .eq 33, 3) := by decide +kernel
theorem dX7_car_10 : decode cX7_car 10 = .ok (.iload_n 2, 1) := by decide +kernel
theorem dX7_car_11 : decode cX7_car 11 = .ok (.i2l, 1) := by decide +kernel
theorem dX7_car_12 : decode cX7_car 12 = .ok (.lconst 0, 1) := by decide +kernel
theorem dX7_car_13 : decode cX7_car 13 = .ok (.aload_n 0, 1) := by decide +kernel
theorem dX7_car_14 : decode cX7_car 14 = .ok (.getfield 7, 3) := by decide +kernel
theorem dX7_car_17 : decode cX7_car 17 = .ok (.iconst 0, 1) := by decide +kernel
theorem dX7_car_18 : decode cX7_car 18 = .ok (.iaload, 1) := by decide +kernel
theorem dX7_car_19 : decode cX7_car 19 = .ok (.iconst 1, 1) := by decide +kernel
theorem dX7_car_20 : decode cX7_car 20 = .ok (.isub, 1) := by decide +kernel
theorem dX7_car_21 : decode cX7_car 21 = .ok (.i2l, 1) := by decide +kernel
theorem dX7_car_22 : decode cX7_car 22 = .ok (.invokestatic 53, 3) := by decide +kernel
theorem dX7_car_25 : decode cX7_car 25 = .ok (.ifCond .eq 15, 3) := by decide +kernel
theorem dX7_car_28 : decode cX7_car 28 = .ok (.iload_n 3, 1) := by decide +kernel
theorem dX7_car_29 : decode cX7_car 29 = .ok (.i2l, 1) := by decide +kernel
theorem dX7_car_30 : decode cX7_car 30 = .ok (.lconst 0, 1) := by decide +kernel
theorem dX7_car_31 : decode cX7_car 31 = .ok (.ldc2_w 72, 3) := by decide +kernel
theorem dX7_car_34 : decode cX7_car 34 = .ok (.invokestatic 53, 3) := by decide +kernel
theorem dX7_car_37 : decode cX7_car 37 = .ok (.ifCond .ne 5, 3) := by decide +kernel
theorem dX7_car_40 : decode cX7_car 40 = .ok (.iconst (-1), 1) := by decide +kernel
theorem dX7_car_41 : decode cX7_car 41 = .ok (.ireturn, 1) := by decide +kernel
theorem dX7_car_42 : decode cX7_car 42 = .ok (.aload_n 0, 1) := by decide +kernel
theorem dX7_car_43 : decode cX7_car 43 = .ok (.iconst 0, 1) := by decide +kernel
theorem dX7_car_44 : decode cX7_car 44 = .ok (.iload_n 1, 1) := by decide +kernel
theorem dX7_car_45 : decode cX7_car 45 = .ok (.iload_n 2, 1) := by decide +kernel
theorem dX7_car_46 : decode cX7_car 46 = .ok (.invokevirtual 77, 3) := by decide +kernel
theorem dX7_car_49 : decode cX7_car 49 = .ok (.ifCond .lt 6, 3) := by decide +kernel
theorem dX7_car_52 : decode cX7_car 52 = .ok (.bipush (-2), 2) := by decide +kernel
theorem dX7_car_54 : decode cX7_car 54 = .ok (.ireturn, 1) := by decide +kernel
theorem dX7_car_55 : decode cX7_car 55 = .ok (.aload_n 0, 1) := by decide +kernel
theorem dX7_car_56 : decode cX7_car 56 = .ok (.getfield 7, 3) := by decide +kernel
theorem dX7_car_59 : decode cX7_car 59 = .ok (.iconst 2, 1) := by decide +kernel
theorem dX7_car_60 : decode cX7_car 60 = .ok (.iaload, 1) := by decide +kernel
theorem dX7_car_61 : decode cX7_car 61 = .ok (.bipush 12, 2) := by decide +kernel
theorem dX7_car_63 : decode cX7_car 63 = .ok (.if_icmp .ne 6, 3) := by decide +kernel
theorem dX7_car_66 : decode cX7_car 66 = .ok (.bipush (-3), 2) := by decide +kernel
theorem dX7_car_68 : decode cX7_car 68 = .ok (.ireturn, 1) := by decide +kernel
theorem dX7_car_69 : decode cX7_car 69 = .ok (.aload_n 0, 1) := by decide +kernel
theorem dX7_car_70 : decode cX7_car 70 = .ok (.iload_n 1, 1) := by decide +kernel
theorem dX7_car_71 : decode cX7_car 71 = .ok (.iload_n 2, 1) := by decide +kernel
theorem dX7_car_72 : decode cX7_car 72 = .ok (.iload_n 3, 1) := by decide +kernel
theorem dX7_car_73 : decode cX7_car 73 = .ok (.invokevirtual 80, 3) := by decide +kernel
theorem dX7_car_76 : decode cX7_car 76 = .ok (.aload_n 0, 1) := by decide +kernel
theorem dX7_car_77 : decode cX7_car 77 = .ok (.getfield 7, 3) := by decide +kernel
theorem dX7_car_80 : decode cX7_car 80 = .ok (.iconst 2, 1) := by decide +kernel
theorem dX7_car_81 : decode cX7_car 81 = .ok (.iaload, 1) := by decide +kernel
theorem dX7_car_82 : decode cX7_car 82 = .ok (.iconst 1, 1) := by decide +kernel
theorem dX7_car_83 : decode cX7_car 83 = .ok (.isub, 1) := by decide +kernel
theorem dX7_car_84 : decode cX7_car 84 = .ok (.ireturn, 1) := by decide +kernel
theorem dX7_evenly_0 : decode cX7_evenly 0 = .ok (.iload_n 1, 1) := by decide +kernel
theorem dX7_evenly_1 : decode cX7_evenly 1 = .ok (.i2l, 1) := by decide +kernel
theorem dX7_evenly_2 : decode cX7_evenly 2 = .ok (.lconst 1, 1) := by decide +kernel
theorem dX7_evenly_3 : decode cX7_evenly 3 = .ok (.ldc2_w 68, 3) := by decide +kernel
theorem dX7_evenly_6 : decode cX7_evenly 6 = .ok (.invokestatic 53, 3) := by decide +kernel
theorem dX7_evenly_9 : decode cX7_evenly 9 = .ok (.ifCond .eq 25, 3) := by decide +kernel
theorem dX7_evenly_12 : decode cX7_evenly 12 = .ok (.iload_n 1, 1) := by decide +kernel
theorem dX7_evenly_13 : decode cX7_evenly 13 = .ok (.aload_n 0, 1) := by decide +kernel
theorem dX7_evenly_14 : decode cX7_evenly 14 = .ok (.getfield 7, 3) := by decide +kernel
theorem dX7_evenly_17 : decode cX7_evenly 17 = .ok (.iconst 0, 1) := by decide +kernel
theorem dX7_evenly_18 : decode cX7_evenly 18 = .ok (.iaload, 1) := by decide +kernel
theorem dX7_evenly_19 : decode cX7_evenly 19 = .ok (.if_icmp .gt 15, 3) := by decide +kernel
theorem dX7_evenly_22 : decode cX7_evenly 22 = .ok (.iload_n 2, 1) := by decide +kernel
theorem dX7_evenly_23 : decode cX7_evenly 23 = .ok (.i2l, 1) := by decide +kernel
theorem dX7_evenly_24 : decode cX7_evenly 24 = .ok (.lconst 0, 1) := by decide +kernel
theorem dX7_evenly_25 : decode cX7_evenly 25 = .ok (.ldc2_w 72, 3) := by decide +kernel
theorem dX7_evenly_28 : decode cX7_evenly 28 = .ok (.invokestatic 53, 3) := by decide +kernel
theorem dX7_evenly_31 : decode cX7_evenly 31 = .ok (.ifCond .ne 5, 3) := by decide +kernel
theorem dX7_evenly_34 : decode cX7_evenly 34 = .ok (.iconst (-1), 1) := by decide +kernel
theorem dX7_evenly_35 : decode cX7_evenly 35 = .ok (.ireturn, 1) := by decide +kernel
theorem dX7_evenly_36 : decode cX7_evenly 36 = .ok (.aload_n 0, 1) := by decide +kernel
theorem dX7_evenly_37 : decode cX7_evenly 37 = .ok (.getfield 7, 3) := by decide +kernel
theorem dX7_evenly_40 : decode cX7_evenly 40 = .ok (.iconst 2, 1) := by decide +kernel
theorem dX7_evenly_41 : decode cX7_evenly 41 = .ok (.iconst 0, 1) := by decide +kernel
theorem dX7_evenly_42 : decode cX7_evenly 42 = .ok (.iastore, 1) := by decide +kernel
theorem dX7_evenly_43 : decode cX7_evenly 43 = .ok (.aload_n 0, 1) := by decide +kernel
theorem dX7_evenly_44 : decode cX7_evenly 44 = .ok (.getfield 7, 3) := by decide +kernel
theorem dX7_evenly_47 : decode cX7_evenly 47 = .ok (.iconst 4, 1) := by decide +kernel
theorem dX7_evenly_48 : decode cX7_evenly 48 = .ok (.bipush (-4), 2) := by decide +kernel
theorem dX7_evenly_50 : decode cX7_evenly 50 = .ok (.iastore, 1) := by decide +kernel
theorem dX7_evenly_51 : decode cX7_evenly 51 = .ok (.iconst 0, 1) := by decide +kernel
theorem dX7_evenly_52 : decode cX7_evenly 52 = .ok (.istore_n 3, 1) := by decide +kernel
theorem dX7_evenly_53 : decode cX7_evenly 53 = .ok (.iload_n 3, 1) := by decide +kernel
theorem dX7_evenly_54 : decode cX7_evenly 54 = .ok (.iload_n 1, 1) := by decide +kernel
theorem dX7_evenly_55 : decode cX7_evenly 55 = .ok (.if_icmp .ge 25, 3) := by decide +kernel
theorem dX7_evenly_58 : decode cX7_evenly 58 = .ok (.aload_n 0, 1) := by decide +kernel
theorem dX7_evenly_59 : decode cX7_evenly 59 = .ok (.iconst 0, 1) := by decide +kernel
theorem dX7_evenly_60 : decode cX7_evenly 60 = .ok (.iload_n 3, 1) := by decide +kernel
theorem dX7_evenly_61 : decode cX7_evenly 61 = .ok (.aload_n 0, 1) := by decide +kernel
theorem dX7_evenly_62 : decode cX7_evenly 62 = .ok (.getfield 7, 3) := by decide +kernel
theorem dX7_evenly_65 : decode cX7_evenly 65 = .ok (.iconst 0, 1) := by decide +kernel
theorem dX7_evenly_66 : decode cX7_evenly 66 = .ok (.iaload, 1) := by decide +kernel
theorem dX7_evenly_67 : decode cX7_evenly 67 = .ok (.imul, 1) := by decide +kernel
theorem dX7_evenly_68 : decode cX7_evenly 68 = .ok (.iload_n 1, 1) := by decide +kernel
theorem dX7_evenly_69 : decode cX7_evenly 69 = .ok (.idiv, 1) := by decide +kernel
theorem dX7_evenly_70 : decode cX7_evenly 70 = .ok (.iload_n 2, 1) := by decide +kernel
theorem dX7_evenly_71 : decode cX7_evenly 71 = .ok (.invokevirtual 80, 3) := by decide +kernel
theorem dX7_evenly_74 : decode cX7_evenly 74 = .ok (.iinc 3 1, 3) := by decide +kernel
theorem dX7_evenly_77 : decode cX7_evenly 77 = .ok (.goto (-24), 3) := by decide +kernel
theorem dX7_evenly_80 : decode cX7_evenly 80 = .ok (.iload_n 1, 1) := by decide +kernel
theorem dX7_evenly_81 : decode cX7_evenly 81 = .ok (.ireturn, 1) := by decide +kernel
theorem dX7_set_0 : decode cX7_set 0 = .ok (.aload_n 0, 1) := by decide +kernel
theorem dX7_set_1 : decode cX7_set 1 = .ok (.iload_n 1, 1) := by decide +kernel
theorem dX7_set_2 : decode cX7_set 2 = .ok (.invokevirtual 84, 3) := by decide +kernel
theorem dX7_set_5 : decode cX7_set 5 = .ok (.ifCond .eq 35, 3) := by decide +kernel
theorem dX7_set_8 : decode cX7_set 8 = .ok (.iload_n 2, 1) := by decide +kernel
theorem dX7_set_9 : decode cX7_set 9 = .ok (.i2l, 1) := by decide +kernel
theorem dX7_set_10 : decode cX7_set 10 = .ok (.lconst 0, 1) := by decide +kernel
theorem dX7_set_11 : decode cX7_set 11 = .ok (.lconst 1, 1) := by decide +kernel
theorem dX7_set_12 : decode cX7_set 12 = .ok (.invokestatic 53, 3) := by decide +kernel
theorem dX7_set_15 : decode cX7_set 15 = .ok (.ifCond .eq 25, 3) := by decide +kernel
theorem dX7_set_18 : decode cX7_set 18 = .ok (.iload_n 3, 1) := by decide +kernel
theorem dX7_set_19 : decode cX7_set 19 = .ok (.i2l, 1) := by decide +kernel
theorem dX7_set_20 : decode cX7_set 20 = .ok (.lconst 0, 1) := by decide +kernel
theorem dX7_set_21 : decode cX7_set 21 = .ok (.iload_n 2, 1) := by decide +kernel
theorem dX7_set_22 : decode cX7_set 22 = .ok (.ifCond .ne 9, 3) := by decide +kernel
theorem dX7_set_25 : decode cX7_set 25 = .ok (.ldc2_w 88, 3) := by decide +kernel
theorem dX7_set_28 : decode cX7_set 28 = .ok (.goto 6, 3) := by decide +kernel
theorem dX7_set_31 : decode cX7_set 31 = .ok (.ldc2_w 90, 3) := by decide +kernel
theorem dX7_set_34 : decode cX7_set 34 = .ok (.invokestatic 53, 3) := by decide +kernel
theorem dX7_set_37 : decode cX7_set 37 = .ok (.ifCond .ne 5, 3) := by decide +kernel
theorem dX7_set_40 : decode cX7_set 40 = .ok (.iconst (-1), 1) := by decide +kernel
theorem dX7_set_41 : decode cX7_set 41 = .ok (.ireturn, 1) := by decide +kernel
theorem dX7_set_42 : decode cX7_set 42 = .ok (.aload_n 0, 1) := by decide +kernel
theorem dX7_set_43 : decode cX7_set 43 = .ok (.iconst 0, 1) := by decide +kernel
theorem dX7_set_44 : decode cX7_set 44 = .ok (.iload_n 1, 1) := by decide +kernel
theorem dX7_set_45 : decode cX7_set 45 = .ok (.iconst 3, 1) := by decide +kernel
theorem dX7_set_46 : decode cX7_set 46 = .ok (.iload_n 2, 1) := by decide +kernel
theorem dX7_set_47 : decode cX7_set 47 = .ok (.iadd, 1) := by decide +kernel
theorem dX7_set_48 : decode cX7_set 48 = .ok (.invokevirtual 57, 3) := by decide +kernel
theorem dX7_set_51 : decode cX7_set 51 = .ok (.istore 4, 2) := by decide +kernel
theorem dX7_set_53 : decode cX7_set 53 = .ok (.aload_n 0, 1) := by decide +kernel
theorem dX7_set_54 : decode cX7_set 54 = .ok (.getfield 7, 3) := by decide +kernel
theorem dX7_set_57 : decode cX7_set 57 = .ok (.iconst 0, 1) := by decide +kernel
theorem dX7_set_58 : decode cX7_set 58 = .ok (.iload_n 1, 1) := by decide +kernel
theorem dX7_set_59 : decode cX7_set 59 = .ok (.iconst 3, 1) := by decide +kernel
theorem dX7_set_60 : decode cX7_set 60 = .ok (.iload_n 2, 1) := by decide +kernel
theorem dX7_set_61 : decode cX7_set 61 = .ok (.iadd, 1) := by decide +kernel
theorem dX7_set_62 : decode cX7_set 62 = .ok (.invokestatic 74, 3) := by decide +kernel
theorem dX7_set_65 : decode cX7_set 65 = .ok (.iload_n 3, 1) := by decide +kernel
theorem dX7_set_66 : decode cX7_set 66 = .ok (.iastore, 1) := by decide +kernel
theorem dX7_set_67 : decode cX7_set 67 = .ok (.iload 4, 2) := by decide +kernel
theorem dX7_set_69 : decode cX7_set 69 = .ok (.ireturn, 1) := by decide +kernel
theorem dX7_told_0 : decode cX7_told 0 = .ok (.aload_n 0, 1) := by decide +kernel
theorem dX7_told_1 : decode cX7_told 1 = .ok (.iload_n 1, 1) := by decide +kernel
theorem dX7_told_2 : decode cX7_told 2 = .ok (.invokevirtual 84, 3) := by decide +kernel
theorem dX7_told_5 : decode cX7_told 5 = .ok (.ifCond .ne 5, 3) := by decide +kernel
theorem dX7_told_8 : decode cX7_told 8 = .ok (.iconst (-1), 1) := by decide +kernel
theorem dX7_told_9 : decode cX7_told 9 = .ok (.ireturn, 1) := by decide +kernel
theorem dX7_told_10 : decode cX7_told 10 = .ok (.iload_n 2, 1) := by decide +kernel
theorem dX7_told_11 : decode cX7_told 11 = .ok (.tableswitch 107 0 7 #[45, 53, 61, 69, 76, 83, 90, 98], 45) := by decide +kernel
theorem dX7_told_56 : decode cX7_told 56 = .ok (.aload_n 0, 1) := by decide +kernel
theorem dX7_told_57 : decode cX7_told 57 = .ok (.iconst 0, 1) := by decide +kernel
theorem dX7_told_58 : decode cX7_told 58 = .ok (.iload_n 1, 1) := by decide +kernel
theorem dX7_told_59 : decode cX7_told 59 = .ok (.iconst 0, 1) := by decide +kernel
theorem dX7_told_60 : decode cX7_told 60 = .ok (.invokevirtual 57, 3) := by decide +kernel
theorem dX7_told_63 : decode cX7_told 63 = .ok (.ireturn, 1) := by decide +kernel
theorem dX7_told_64 : decode cX7_told 64 = .ok (.aload_n 0, 1) := by decide +kernel
theorem dX7_told_65 : decode cX7_told 65 = .ok (.iconst 0, 1) := by decide +kernel
theorem dX7_told_66 : decode cX7_told 66 = .ok (.iload_n 1, 1) := by decide +kernel
theorem dX7_told_67 : decode cX7_told 67 = .ok (.iconst 1, 1) := by decide +kernel
theorem dX7_told_68 : decode cX7_told 68 = .ok (.invokevirtual 57, 3) := by decide +kernel
theorem dX7_told_71 : decode cX7_told 71 = .ok (.ireturn, 1) := by decide +kernel
theorem dX7_told_72 : decode cX7_told 72 = .ok (.aload_n 0, 1) := by decide +kernel
theorem dX7_told_73 : decode cX7_told 73 = .ok (.iconst 0, 1) := by decide +kernel
theorem dX7_told_74 : decode cX7_told 74 = .ok (.iload_n 1, 1) := by decide +kernel
theorem dX7_told_75 : decode cX7_told 75 = .ok (.iconst 2, 1) := by decide +kernel
theorem dX7_told_76 : decode cX7_told 76 = .ok (.invokevirtual 57, 3) := by decide +kernel
theorem dX7_told_79 : decode cX7_told 79 = .ok (.ireturn, 1) := by decide +kernel
theorem dX7_told_80 : decode cX7_told 80 = .ok (.aload_n 0, 1) := by decide +kernel
theorem dX7_told_81 : decode cX7_told 81 = .ok (.iconst 0, 1) := by decide +kernel
theorem dX7_told_82 : decode cX7_told 82 = .ok (.iload_n 1, 1) := by decide +kernel
theorem dX7_told_83 : decode cX7_told 83 = .ok (.invokevirtual 92, 3) := by decide +kernel
theorem dX7_told_86 : decode cX7_told 86 = .ok (.ireturn, 1) := by decide +kernel
theorem dX7_told_87 : decode cX7_told 87 = .ok (.aload_n 0, 1) := by decide +kernel
theorem dX7_told_88 : decode cX7_told 88 = .ok (.iconst 0, 1) := by decide +kernel
theorem dX7_told_89 : decode cX7_told 89 = .ok (.iload_n 1, 1) := by decide +kernel
theorem dX7_told_90 : decode cX7_told 90 = .ok (.invokevirtual 64, 3) := by decide +kernel
theorem dX7_told_93 : decode cX7_told 93 = .ok (.ireturn, 1) := by decide +kernel
theorem dX7_told_94 : decode cX7_told 94 = .ok (.aload_n 0, 1) := by decide +kernel
theorem dX7_told_95 : decode cX7_told 95 = .ok (.iconst 0, 1) := by decide +kernel
theorem dX7_told_96 : decode cX7_told 96 = .ok (.iload_n 1, 1) := by decide +kernel
theorem dX7_told_97 : decode cX7_told 97 = .ok (.invokevirtual 95, 3) := by decide +kernel
theorem dX7_told_100 : decode cX7_told 100 = .ok (.ireturn, 1) := by decide +kernel
theorem dX7_told_101 : decode cX7_told 101 = .ok (.aload_n 0, 1) := by decide +kernel
theorem dX7_told_102 : decode cX7_told 102 = .ok (.iconst 0, 1) := by decide +kernel
theorem dX7_told_103 : decode cX7_told 103 = .ok (.iload_n 1, 1) := by decide +kernel
theorem dX7_told_104 : decode cX7_told 104 = .ok (.iconst 5, 1) := by decide +kernel
theorem dX7_told_105 : decode cX7_told 105 = .ok (.invokevirtual 57, 3) := by decide +kernel
theorem dX7_told_108 : decode cX7_told 108 = .ok (.ireturn, 1) := by decide +kernel
theorem dX7_told_109 : decode cX7_told 109 = .ok (.aload_n 0, 1) := by decide +kernel
theorem dX7_told_110 : decode cX7_told 110 = .ok (.iconst 0, 1) := by decide +kernel
theorem dX7_told_111 : decode cX7_told 111 = .ok (.iload_n 1, 1) := by decide +kernel
theorem dX7_told_112 : decode cX7_told 112 = .ok (.bipush 6, 2) := by decide +kernel
theorem dX7_told_114 : decode cX7_told 114 = .ok (.invokevirtual 57, 3) := by decide +kernel
theorem dX7_told_117 : decode cX7_told 117 = .ok (.ireturn, 1) := by decide +kernel
theorem dX7_told_118 : decode cX7_told 118 = .ok (.iconst (-1), 1) := by decide +kernel
theorem dX7_told_119 : decode cX7_told 119 = .ok (.ireturn, 1) := by decide +kernel
theorem dX7_type_0 : decode cX7_type 0 = .ok (.iload_n 3, 1) := by decide +kernel
theorem dX7_type_1 : decode cX7_type 1 = .ok (.i2l, 1) := by decide +kernel
theorem dX7_type_2 : decode cX7_type 2 = .ok (.lconst 1, 1) := by decide +kernel
theorem dX7_type_3 : decode cX7_type 3 = .ok (.ldc2_w 98, 3) := by decide +kernel
theorem dX7_type_6 : decode cX7_type 6 = .ok (.invokestatic 53, 3) := by decide +kernel
theorem dX7_type_9 : decode cX7_type 9 = .ok (.ifCond .ne 5, 3) := by decide +kernel
theorem dX7_type_12 : decode cX7_type 12 = .ok (.iconst (-1), 1) := by decide +kernel
theorem dX7_type_13 : decode cX7_type 13 = .ok (.ireturn, 1) := by decide +kernel
theorem dX7_type_14 : decode cX7_type 14 = .ok (.iconst 0, 1) := by decide +kernel
theorem dX7_type_15 : decode cX7_type 15 = .ok (.istore 4, 2) := by decide +kernel
theorem dX7_type_17 : decode cX7_type 17 = .ok (.iload 4, 2) := by decide +kernel
theorem dX7_type_19 : decode cX7_type 19 = .ok (.iload_n 3, 1) := by decide +kernel
theorem dX7_type_20 : decode cX7_type 20 = .ok (.if_icmp .ge 34, 3) := by decide +kernel
theorem dX7_type_23 : decode cX7_type 23 = .ok (.lload_n 1, 1) := by decide +kernel
theorem dX7_type_24 : decode cX7_type 24 = .ok (.bipush 8, 2) := by decide +kernel
theorem dX7_type_26 : decode cX7_type 26 = .ok (.iload 4, 2) := by decide +kernel
theorem dX7_type_28 : decode cX7_type 28 = .ok (.imul, 1) := by decide +kernel
theorem dX7_type_29 : decode cX7_type 29 = .ok (.lshr, 1) := by decide +kernel
theorem dX7_type_30 : decode cX7_type 30 = .ok (.ldc2_w 100, 3) := by decide +kernel
theorem dX7_type_33 : decode cX7_type 33 = .ok (.land, 1) := by decide +kernel
theorem dX7_type_34 : decode cX7_type 34 = .ok (.ldc2_w 102, 3) := by decide +kernel
theorem dX7_type_37 : decode cX7_type 37 = .ok (.ldc2_w 104, 3) := by decide +kernel
theorem dX7_type_40 : decode cX7_type 40 = .ok (.invokestatic 53, 3) := by decide +kernel
theorem dX7_type_43 : decode cX7_type 43 = .ok (.ifCond .ne 5, 3) := by decide +kernel
theorem dX7_type_46 : decode cX7_type 46 = .ok (.iconst (-1), 1) := by decide +kernel
theorem dX7_type_47 : decode cX7_type 47 = .ok (.ireturn, 1) := by decide +kernel
theorem dX7_type_48 : decode cX7_type 48 = .ok (.iinc 4 1, 3) := by decide +kernel
theorem dX7_type_51 : decode cX7_type 51 = .ok (.goto (-34), 3) := by decide +kernel
theorem dX7_type_54 : decode cX7_type 54 = .ok (.aload_n 0, 1) := by decide +kernel
theorem dX7_type_55 : decode cX7_type 55 = .ok (.getfield 106, 3) := by decide +kernel
theorem dX7_type_58 : decode cX7_type 58 = .ok (.iload_n 3, 1) := by decide +kernel
theorem dX7_type_59 : decode cX7_type 59 = .ok (.iadd, 1) := by decide +kernel
theorem dX7_type_60 : decode cX7_type 60 = .ok (.bipush 100, 2) := by decide +kernel
theorem dX7_type_62 : decode cX7_type 62 = .ok (.if_icmp .le 6, 3) := by decide +kernel
theorem dX7_type_65 : decode cX7_type 65 = .ok (.bipush (-3), 2) := by decide +kernel
theorem dX7_type_67 : decode cX7_type 67 = .ok (.ireturn, 1) := by decide +kernel
theorem dX7_type_68 : decode cX7_type 68 = .ok (.iload_n 3, 1) := by decide +kernel
theorem dX7_type_69 : decode cX7_type 69 = .ok (.iconst 1, 1) := by decide +kernel
theorem dX7_type_70 : decode cX7_type 70 = .ok (.isub, 1) := by decide +kernel
theorem dX7_type_71 : decode cX7_type 71 = .ok (.istore 4, 2) := by decide +kernel
theorem dX7_type_73 : decode cX7_type 73 = .ok (.iload 4, 2) := by decide +kernel
theorem dX7_type_75 : decode cX7_type 75 = .ok (.ifCond .lt 40, 3) := by decide +kernel
theorem dX7_type_78 : decode cX7_type 78 = .ok (.aload_n 0, 1) := by decide +kernel
theorem dX7_type_79 : decode cX7_type 79 = .ok (.getfield 17, 3) := by decide +kernel
theorem dX7_type_82 : decode cX7_type 82 = .ok (.aload_n 0, 1) := by decide +kernel
theorem dX7_type_83 : decode cX7_type 83 = .ok (.getfield 106, 3) := by decide +kernel
theorem dX7_type_86 : decode cX7_type 86 = .ok (.lload_n 1, 1) := by decide +kernel
theorem dX7_type_87 : decode cX7_type 87 = .ok (.bipush 8, 2) := by decide +kernel
theorem dX7_type_89 : decode cX7_type 89 = .ok (.iload 4, 2) := by decide +kernel
theorem dX7_type_91 : decode cX7_type 91 = .ok (.imul, 1) := by decide +kernel
theorem dX7_type_92 : decode cX7_type 92 = .ok (.lshr, 1) := by decide +kernel
theorem dX7_type_93 : decode cX7_type 93 = .ok (.ldc2_w 100, 3) := by decide +kernel
theorem dX7_type_96 : decode cX7_type 96 = .ok (.land, 1) := by decide +kernel
theorem dX7_type_97 : decode cX7_type 97 = .ok (.l2i, 1) := by decide +kernel
theorem dX7_type_98 : decode cX7_type 98 = .ok (.iastore, 1) := by decide +kernel
theorem dX7_type_99 : decode cX7_type 99 = .ok (.aload_n 0, 1) := by decide +kernel
theorem dX7_type_100 : decode cX7_type 100 = .ok (.dup, 1) := by decide +kernel
theorem dX7_type_101 : decode cX7_type 101 = .ok (.getfield 106, 3) := by decide +kernel
theorem dX7_type_104 : decode cX7_type 104 = .ok (.iconst 1, 1) := by decide +kernel
theorem dX7_type_105 : decode cX7_type 105 = .ok (.iadd, 1) := by decide +kernel
theorem dX7_type_106 : decode cX7_type 106 = .ok (.putfield 106, 3) := by decide +kernel
theorem dX7_type_109 : decode cX7_type 109 = .ok (.iinc 4 (-1), 3) := by decide +kernel
theorem dX7_type_112 : decode cX7_type 112 = .ok (.goto (-39), 3) := by decide +kernel
theorem dX7_type_115 : decode cX7_type 115 = .ok (.aload_n 0, 1) := by decide +kernel
theorem dX7_type_116 : decode cX7_type 116 = .ok (.getfield 106, 3) := by decide +kernel
theorem dX7_type_119 : decode cX7_type 119 = .ok (.ireturn, 1) := by decide +kernel
theorem dX7_look_0 : decode cX7_look 0 = .ok (.aload_n 0, 1) := by decide +kernel
theorem dX7_look_1 : decode cX7_look 1 = .ok (.getfield 110, 3) := by decide +kernel
theorem dX7_look_4 : decode cX7_look 4 = .ok (.aload_n 0, 1) := by decide +kernel
theorem dX7_look_5 : decode cX7_look 5 = .ok (.getfield 106, 3) := by decide +kernel
theorem dX7_look_8 : decode cX7_look 8 = .ok (.if_icmp .ge 30, 3) := by decide +kernel
theorem dX7_look_11 : decode cX7_look 11 = .ok (.aload_n 0, 1) := by decide +kernel
theorem dX7_look_12 : decode cX7_look 12 = .ok (.getfield 17, 3) := by decide +kernel
theorem dX7_look_15 : decode cX7_look 15 = .ok (.aload_n 0, 1) := by decide +kernel
theorem dX7_look_16 : decode cX7_look 16 = .ok (.getfield 110, 3) := by decide +kernel
theorem dX7_look_19 : decode cX7_look 19 = .ok (.iaload, 1) := by decide +kernel
theorem dX7_look_20 : decode cX7_look 20 = .ok (.bipush 32, 2) := by decide +kernel
theorem dX7_look_22 : decode cX7_look 22 = .ok (.if_icmp .ne 16, 3) := by decide +kernel
theorem dX7_look_25 : decode cX7_look 25 = .ok (.aload_n 0, 1) := by decide +kernel
theorem dX7_look_26 : decode cX7_look 26 = .ok (.dup, 1) := by decide +kernel
theorem dX7_look_27 : decode cX7_look 27 = .ok (.getfield 110, 3) := by decide +kernel
theorem dX7_look_30 : decode cX7_look 30 = .ok (.iconst 1, 1) := by decide +kernel
theorem dX7_look_31 : decode cX7_look 31 = .ok (.iadd, 1) := by decide +kernel
theorem dX7_look_32 : decode cX7_look 32 = .ok (.putfield 110, 3) := by decide +kernel
theorem dX7_look_35 : decode cX7_look 35 = .ok (.goto (-35), 3) := by decide +kernel
theorem dX7_look_38 : decode cX7_look 38 = .ok (.aload_n 0, 1) := by decide +kernel
theorem dX7_look_39 : decode cX7_look 39 = .ok (.getfield 110, 3) := by decide +kernel
theorem dX7_look_42 : decode cX7_look 42 = .ok (.aload_n 0, 1) := by decide +kernel
theorem dX7_look_43 : decode cX7_look 43 = .ok (.getfield 106, 3) := by decide +kernel
theorem dX7_look_46 : decode cX7_look 46 = .ok (.if_icmp .ge 15, 3) := by decide +kernel
theorem dX7_look_49 : decode cX7_look 49 = .ok (.aload_n 0, 1) := by decide +kernel
theorem dX7_look_50 : decode cX7_look 50 = .ok (.getfield 17, 3) := by decide +kernel
theorem dX7_look_53 : decode cX7_look 53 = .ok (.aload_n 0, 1) := by decide +kernel
theorem dX7_look_54 : decode cX7_look 54 = .ok (.getfield 110, 3) := by decide +kernel
theorem dX7_look_57 : decode cX7_look 57 = .ok (.iaload, 1) := by decide +kernel
theorem dX7_look_58 : decode cX7_look 58 = .ok (.goto 4, 3) := by decide +kernel
theorem dX7_look_61 : decode cX7_look 61 = .ok (.iconst (-1), 1) := by decide +kernel
theorem dX7_look_62 : decode cX7_look 62 = .ok (.ireturn, 1) := by decide +kernel
theorem dX7_isDigit_0 : decode cX7_isDigit 0 = .ok (.iload_n 1, 1) := by decide +kernel
theorem dX7_isDigit_1 : decode cX7_isDigit 1 = .ok (.aload_n 0, 1) := by decide +kernel
theorem dX7_isDigit_2 : decode cX7_isDigit 2 = .ok (.getfield 106, 3) := by decide +kernel
theorem dX7_isDigit_5 : decode cX7_isDigit 5 = .ok (.if_icmp .ge 26, 3) := by decide +kernel
theorem dX7_isDigit_8 : decode cX7_isDigit 8 = .ok (.aload_n 0, 1) := by decide +kernel
theorem dX7_isDigit_9 : decode cX7_isDigit 9 = .ok (.getfield 17, 3) := by decide +kernel
theorem dX7_isDigit_12 : decode cX7_isDigit 12 = .ok (.iload_n 1, 1) := by decide +kernel
theorem dX7_isDigit_13 : decode cX7_isDigit 13 = .ok (.iaload, 1) := by decide +kernel
theorem dX7_isDigit_14 : decode cX7_isDigit 14 = .ok (.i2l, 1) := by decide +kernel
theorem dX7_isDigit_15 : decode cX7_isDigit 15 = .ok (.ldc2_w 113, 3) := by decide +kernel
theorem dX7_isDigit_18 : decode cX7_isDigit 18 = .ok (.ldc2_w 115, 3) := by decide +kernel
theorem dX7_isDigit_21 : decode cX7_isDigit 21 = .ok (.invokestatic 53, 3) := by decide +kernel
theorem dX7_isDigit_24 : decode cX7_isDigit 24 = .ok (.ifCond .eq 7, 3) := by decide +kernel
theorem dX7_isDigit_27 : decode cX7_isDigit 27 = .ok (.iconst 1, 1) := by decide +kernel
theorem dX7_isDigit_28 : decode cX7_isDigit 28 = .ok (.goto 4, 3) := by decide +kernel
