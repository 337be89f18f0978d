theorem dX7_isDigit_31 : decode cX7_isDigit 31 = .ok (.iconst 0, 1) := by decide +kernel
theorem dX7_isDigit_32 : decode cX7_isDigit 32 = .ok (.ireturn, 1) := by decide +kernel
theorem dX7_claim_0 : decode cX7_claim 0 = .ok (.aload_n 0, 1) := by decide +kernel
theorem dX7_claim_1 : decode cX7_claim 1 = .ok (.invokevirtual 117, 3) := by decide +kernel
theorem dX7_claim_4 : decode cX7_claim 4 = .ok (.istore_n 1, 1) := by decide +kernel
theorem dX7_claim_5 : decode cX7_claim 5 = .ok (.iload_n 1, 1) := by decide +kernel
theorem dX7_claim_6 : decode cX7_claim 6 = .ok (.bipush 42, 2) := by decide +kernel
theorem dX7_claim_8 : decode cX7_claim 8 = .ok (.if_icmp .ne 15, 3) := by decide +kernel
theorem dX7_claim_11 : decode cX7_claim 11 = .ok (.aload_n 0, 1) := by decide +kernel
theorem dX7_claim_12 : decode cX7_claim 12 = .ok (.dup, 1) := by decide +kernel
theorem dX7_claim_13 : decode cX7_claim 13 = .ok (.getfield 110, 3) := by decide +kernel
theorem dX7_claim_16 : decode cX7_claim 16 = .ok (.iconst 1, 1) := by decide +kernel
theorem dX7_claim_17 : decode cX7_claim 17 = .ok (.iadd, 1) := by decide +kernel
theorem dX7_claim_18 : decode cX7_claim 18 = .ok (.putfield 110, 3) := by decide +kernel
theorem dX7_claim_21 : decode cX7_claim 21 = .ok (.iconst 1, 1) := by decide +kernel
theorem dX7_claim_22 : decode cX7_claim 22 = .ok (.ireturn, 1) := by decide +kernel
theorem dX7_claim_23 : decode cX7_claim 23 = .ok (.iload_n 1, 1) := by decide +kernel
theorem dX7_claim_24 : decode cX7_claim 24 = .ok (.bipush 103, 2) := by decide +kernel
theorem dX7_claim_26 : decode cX7_claim 26 = .ok (.if_icmp .eq 23, 3) := by decide +kernel
theorem dX7_claim_29 : decode cX7_claim 29 = .ok (.iload_n 1, 1) := by decide +kernel
theorem dX7_claim_30 : decode cX7_claim 30 = .ok (.bipush 100, 2) := by decide +kernel
theorem dX7_claim_32 : decode cX7_claim 32 = .ok (.if_icmp .eq 17, 3) := by decide +kernel
theorem dX7_claim_35 : decode cX7_claim 35 = .ok (.iload_n 1, 1) := by decide +kernel
theorem dX7_claim_36 : decode cX7_claim 36 = .ok (.bipush 111, 2) := by decide +kernel
theorem dX7_claim_38 : decode cX7_claim 38 = .ok (.if_icmp .eq 11, 3) := by decide +kernel
theorem dX7_claim_41 : decode cX7_claim 41 = .ok (.iload_n 1, 1) := by decide +kernel
theorem dX7_claim_42 : decode cX7_claim 42 = .ok (.bipush 118, 2) := by decide +kernel
theorem dX7_claim_44 : decode cX7_claim 44 = .ok (.if_icmp .eq 5, 3) := by decide +kernel
theorem dX7_claim_47 : decode cX7_claim 47 = .ok (.iconst 0, 1) := by decide +kernel
theorem dX7_claim_48 : decode cX7_claim 48 = .ok (.ireturn, 1) := by decide +kernel
theorem dX7_claim_49 : decode cX7_claim 49 = .ok (.aload_n 0, 1) := by decide +kernel
theorem dX7_claim_50 : decode cX7_claim 50 = .ok (.dup, 1) := by decide +kernel
theorem dX7_claim_51 : decode cX7_claim 51 = .ok (.getfield 110, 3) := by decide +kernel
theorem dX7_claim_54 : decode cX7_claim 54 = .ok (.iconst 1, 1) := by decide +kernel
theorem dX7_claim_55 : decode cX7_claim 55 = .ok (.iadd, 1) := by decide +kernel
theorem dX7_claim_56 : decode cX7_claim 56 = .ok (.putfield 110, 3) := by decide +kernel
theorem dX7_claim_59 : decode cX7_claim 59 = .ok (.aload_n 0, 1) := by decide +kernel
theorem dX7_claim_60 : decode cX7_claim 60 = .ok (.invokevirtual 117, 3) := by decide +kernel
theorem dX7_claim_63 : decode cX7_claim 63 = .ok (.istore_n 2, 1) := by decide +kernel
theorem dX7_claim_64 : decode cX7_claim 64 = .ok (.iload_n 2, 1) := by decide +kernel
theorem dX7_claim_65 : decode cX7_claim 65 = .ok (.bipush 60, 2) := by decide +kernel
theorem dX7_claim_67 : decode cX7_claim 67 = .ok (.if_icmp .eq 17, 3) := by decide +kernel
theorem dX7_claim_70 : decode cX7_claim 70 = .ok (.iload_n 2, 1) := by decide +kernel
theorem dX7_claim_71 : decode cX7_claim 71 = .ok (.bipush 62, 2) := by decide +kernel
theorem dX7_claim_73 : decode cX7_claim 73 = .ok (.if_icmp .eq 11, 3) := by decide +kernel
theorem dX7_claim_76 : decode cX7_claim 76 = .ok (.iload_n 2, 1) := by decide +kernel
theorem dX7_claim_77 : decode cX7_claim 77 = .ok (.bipush 61, 2) := by decide +kernel
theorem dX7_claim_79 : decode cX7_claim 79 = .ok (.if_icmp .eq 5, 3) := by decide +kernel
theorem dX7_claim_82 : decode cX7_claim 82 = .ok (.iconst 0, 1) := by decide +kernel
theorem dX7_claim_83 : decode cX7_claim 83 = .ok (.ireturn, 1) := by decide +kernel
theorem dX7_claim_84 : decode cX7_claim 84 = .ok (.aload_n 0, 1) := by decide +kernel
theorem dX7_claim_85 : decode cX7_claim 85 = .ok (.dup, 1) := by decide +kernel
theorem dX7_claim_86 : decode cX7_claim 86 = .ok (.getfield 110, 3) := by decide +kernel
theorem dX7_claim_89 : decode cX7_claim 89 = .ok (.iconst 1, 1) := by decide +kernel
theorem dX7_claim_90 : decode cX7_claim 90 = .ok (.iadd, 1) := by decide +kernel
theorem dX7_claim_91 : decode cX7_claim 91 = .ok (.putfield 110, 3) := by decide +kernel
theorem dX7_claim_94 : decode cX7_claim 94 = .ok (.aload_n 0, 1) := by decide +kernel
theorem dX7_claim_95 : decode cX7_claim 95 = .ok (.invokevirtual 117, 3) := by decide +kernel
theorem dX7_claim_98 : decode cX7_claim 98 = .ok (.bipush 45, 2) := by decide +kernel
theorem dX7_claim_100 : decode cX7_claim 100 = .ok (.if_icmp .ne 13, 3) := by decide +kernel
theorem dX7_claim_103 : decode cX7_claim 103 = .ok (.aload_n 0, 1) := by decide +kernel
theorem dX7_claim_104 : decode cX7_claim 104 = .ok (.dup, 1) := by decide +kernel
theorem dX7_claim_105 : decode cX7_claim 105 = .ok (.getfield 110, 3) := by decide +kernel
theorem dX7_claim_108 : decode cX7_claim 108 = .ok (.iconst 1, 1) := by decide +kernel
theorem dX7_claim_109 : decode cX7_claim 109 = .ok (.iadd, 1) := by decide +kernel
theorem dX7_claim_110 : decode cX7_claim 110 = .ok (.putfield 110, 3) := by decide +kernel
theorem dX7_claim_113 : decode cX7_claim 113 = .ok (.aload_n 0, 1) := by decide +kernel
theorem dX7_claim_114 : decode cX7_claim 114 = .ok (.invokevirtual 117, 3) := by decide +kernel
theorem dX7_claim_117 : decode cX7_claim 117 = .ok (.pop, 1) := by decide +kernel
theorem dX7_claim_118 : decode cX7_claim 118 = .ok (.aload_n 0, 1) := by decide +kernel
theorem dX7_claim_119 : decode cX7_claim 119 = .ok (.aload_n 0, 1) := by decide +kernel
theorem dX7_claim_120 : decode cX7_claim 120 = .ok (.getfield 110, 3) := by decide +kernel
theorem dX7_claim_123 : decode cX7_claim 123 = .ok (.invokevirtual 121, 3) := by decide +kernel
theorem dX7_claim_126 : decode cX7_claim 126 = .ok (.ifCond .ne 5, 3) := by decide +kernel
theorem dX7_claim_129 : decode cX7_claim 129 = .ok (.iconst 0, 1) := by decide +kernel
theorem dX7_claim_130 : decode cX7_claim 130 = .ok (.ireturn, 1) := by decide +kernel
theorem dX7_claim_131 : decode cX7_claim 131 = .ok (.aload_n 0, 1) := by decide +kernel
theorem dX7_claim_132 : decode cX7_claim 132 = .ok (.dup, 1) := by decide +kernel
theorem dX7_claim_133 : decode cX7_claim 133 = .ok (.getfield 110, 3) := by decide +kernel
theorem dX7_claim_136 : decode cX7_claim 136 = .ok (.iconst 1, 1) := by decide +kernel
theorem dX7_claim_137 : decode cX7_claim 137 = .ok (.iadd, 1) := by decide +kernel
theorem dX7_claim_138 : decode cX7_claim 138 = .ok (.putfield 110, 3) := by decide +kernel
theorem dX7_claim_141 : decode cX7_claim 141 = .ok (.aload_n 0, 1) := by decide +kernel
theorem dX7_claim_142 : decode cX7_claim 142 = .ok (.aload_n 0, 1) := by decide +kernel
theorem dX7_claim_143 : decode cX7_claim 143 = .ok (.aload_n 0, 1) := by decide +kernel
theorem dX7_claim_144 : decode cX7_claim 144 = .ok (.getfield 110, 3) := by decide +kernel
theorem dX7_claim_147 : decode cX7_claim 147 = .ok (.invokevirtual 121, 3) := by decide +kernel
theorem dX7_claim_150 : decode cX7_claim 150 = .ok (.ifCond .eq 12, 3) := by decide +kernel
theorem dX7_claim_153 : decode cX7_claim 153 = .ok (.aload_n 0, 1) := by decide +kernel
theorem dX7_claim_154 : decode cX7_claim 154 = .ok (.getfield 110, 3) := by decide +kernel
theorem dX7_claim_157 : decode cX7_claim 157 = .ok (.iconst 1, 1) := by decide +kernel
theorem dX7_claim_158 : decode cX7_claim 158 = .ok (.iadd, 1) := by decide +kernel
theorem dX7_claim_159 : decode cX7_claim 159 = .ok (.goto 7, 3) := by decide +kernel
theorem dX7_claim_162 : decode cX7_claim 162 = .ok (.aload_n 0, 1) := by decide +kernel
theorem dX7_claim_163 : decode cX7_claim 163 = .ok (.getfield 110, 3) := by decide +kernel
theorem dX7_claim_166 : decode cX7_claim 166 = .ok (.putfield 110, 3) := by decide +kernel
theorem dX7_claim_169 : decode cX7_claim 169 = .ok (.iconst 1, 1) := by decide +kernel
theorem dX7_claim_170 : decode cX7_claim 170 = .ok (.ireturn, 1) := by decide +kernel
theorem dX7_test_0 : decode cX7_test 0 = .ok (.iconst 0, 1) := by decide +kernel
theorem dX7_test_1 : decode cX7_test 1 = .ok (.istore_n 1, 1) := by decide +kernel
theorem dX7_test_2 : decode cX7_test 2 = .ok (.aload_n 0, 1) := by decide +kernel
theorem dX7_test_3 : decode cX7_test 3 = .ok (.invokevirtual 117, 3) := by decide +kernel
theorem dX7_test_6 : decode cX7_test 6 = .ok (.bipush 33, 2) := by decide +kernel
theorem dX7_test_8 : decode cX7_test 8 = .ok (.if_icmp .ne 13, 3) := by decide +kernel
theorem dX7_test_11 : decode cX7_test 11 = .ok (.aload_n 0, 1) := by decide +kernel
theorem dX7_test_12 : decode cX7_test 12 = .ok (.dup, 1) := by decide +kernel
theorem dX7_test_13 : decode cX7_test 13 = .ok (.getfield 110, 3) := by decide +kernel
theorem dX7_test_16 : decode cX7_test 16 = .ok (.iconst 1, 1) := by decide +kernel
theorem dX7_test_17 : decode cX7_test 17 = .ok (.iadd, 1) := by decide +kernel
theorem dX7_test_18 : decode cX7_test 18 = .ok (.putfield 110, 3) := by decide +kernel
theorem dX7_test_21 : decode cX7_test 21 = .ok (.aload_n 0, 1) := by decide +kernel
theorem dX7_test_22 : decode cX7_test 22 = .ok (.invokevirtual 117, 3) := by decide +kernel
theorem dX7_test_25 : decode cX7_test 25 = .ok (.bipush 40, 2) := by decide +kernel
theorem dX7_test_27 : decode cX7_test 27 = .ok (.if_icmp .ne 26, 3) := by decide +kernel
theorem dX7_test_30 : decode cX7_test 30 = .ok (.iload_n 1, 1) := by decide +kernel
theorem dX7_test_31 : decode cX7_test 31 = .ok (.iconst 4, 1) := by decide +kernel
theorem dX7_test_32 : decode cX7_test 32 = .ok (.if_icmp .ne 5, 3) := by decide +kernel
theorem dX7_test_35 : decode cX7_test 35 = .ok (.iconst 0, 1) := by decide +kernel
theorem dX7_test_36 : decode cX7_test 36 = .ok (.ireturn, 1) := by decide +kernel
theorem dX7_test_37 : decode cX7_test 37 = .ok (.iinc 1 1, 3) := by decide +kernel
theorem dX7_test_40 : decode cX7_test 40 = .ok (.aload_n 0, 1) := by decide +kernel
theorem dX7_test_41 : decode cX7_test 41 = .ok (.dup, 1) := by decide +kernel
theorem dX7_test_42 : decode cX7_test 42 = .ok (.getfield 110, 3) := by decide +kernel
theorem dX7_test_45 : decode cX7_test 45 = .ok (.iconst 1, 1) := by decide +kernel
theorem dX7_test_46 : decode cX7_test 46 = .ok (.iadd, 1) := by decide +kernel
theorem dX7_test_47 : decode cX7_test 47 = .ok (.putfield 110, 3) := by decide +kernel
theorem dX7_test_50 : decode cX7_test 50 = .ok (.goto (-48), 3) := by decide +kernel
theorem dX7_test_53 : decode cX7_test 53 = .ok (.aload_n 0, 1) := by decide +kernel
theorem dX7_test_54 : decode cX7_test 54 = .ok (.invokevirtual 124, 3) := by decide +kernel
theorem dX7_test_57 : decode cX7_test 57 = .ok (.ifCond .ne 5, 3) := by decide +kernel
theorem dX7_test_60 : decode cX7_test 60 = .ok (.iconst 0, 1) := by decide +kernel
theorem dX7_test_61 : decode cX7_test 61 = .ok (.ireturn, 1) := by decide +kernel
theorem dX7_test_62 : decode cX7_test 62 = .ok (.aload_n 0, 1) := by decide +kernel
theorem dX7_test_63 : decode cX7_test 63 = .ok (.invokevirtual 117, 3) := by decide +kernel
theorem dX7_test_66 : decode cX7_test 66 = .ok (.bipush 41, 2) := by decide +kernel
theorem dX7_test_68 : decode cX7_test 68 = .ok (.if_icmp .ne 23, 3) := by decide +kernel
theorem dX7_test_71 : decode cX7_test 71 = .ok (.iload_n 1, 1) := by decide +kernel
theorem dX7_test_72 : decode cX7_test 72 = .ok (.ifCond .le 19, 3) := by decide +kernel
theorem dX7_test_75 : decode cX7_test 75 = .ok (.iinc 1 (-1), 3) := by decide +kernel
theorem dX7_test_78 : decode cX7_test 78 = .ok (.aload_n 0, 1) := by decide +kernel
theorem dX7_test_79 : decode cX7_test 79 = .ok (.dup, 1) := by decide +kernel
theorem dX7_test_80 : decode cX7_test 80 = .ok (.getfield 110, 3) := by decide +kernel
theorem dX7_test_83 : decode cX7_test 83 = .ok (.iconst 1, 1) := by decide +kernel
theorem dX7_test_84 : decode cX7_test 84 = .ok (.iadd, 1) := by decide +kernel
theorem dX7_test_85 : decode cX7_test 85 = .ok (.putfield 110, 3) := by decide +kernel
theorem dX7_test_88 : decode cX7_test 88 = .ok (.goto (-26), 3) := by decide +kernel
theorem dX7_test_91 : decode cX7_test 91 = .ok (.aload_n 0, 1) := by decide +kernel
theorem dX7_test_92 : decode cX7_test 92 = .ok (.invokevirtual 117, 3) := by decide +kernel
theorem dX7_test_95 : decode cX7_test 95 = .ok (.istore_n 2, 1) := by decide +kernel
theorem dX7_test_96 : decode cX7_test 96 = .ok (.iload_n 2, 1) := by decide +kernel
theorem dX7_test_97 : decode cX7_test 97 = .ok (.bipush 38, 2) := by decide +kernel
theorem dX7_test_99 : decode cX7_test 99 = .ok (.if_icmp .eq 21, 3) := by decide +kernel
theorem dX7_test_102 : decode cX7_test 102 = .ok (.iload_n 2, 1) := by decide +kernel
theorem dX7_test_103 : decode cX7_test 103 = .ok (.bipush 124, 2) := by decide +kernel
theorem dX7_test_105 : decode cX7_test 105 = .ok (.if_icmp .eq 15, 3) := by decide +kernel
theorem dX7_test_108 : decode cX7_test 108 = .ok (.iload_n 2, 1) := by decide +kernel
theorem dX7_test_109 : decode cX7_test 109 = .ok (.bipush 58, 2) := by decide +kernel
theorem dX7_test_111 : decode cX7_test 111 = .ok (.if_icmp .ne 7, 3) := by decide +kernel
theorem dX7_test_114 : decode cX7_test 114 = .ok (.iload_n 1, 1) := by decide +kernel
theorem dX7_test_115 : decode cX7_test 115 = .ok (.ifCond .le 5, 3) := by decide +kernel
theorem dX7_test_118 : decode cX7_test 118 = .ok (.iconst 0, 1) := by decide +kernel
theorem dX7_test_119 : decode cX7_test 119 = .ok (.ireturn, 1) := by decide +kernel
theorem dX7_test_120 : decode cX7_test 120 = .ok (.aload_n 0, 1) := by decide +kernel
theorem dX7_test_121 : decode cX7_test 121 = .ok (.dup, 1) := by decide +kernel
theorem dX7_test_122 : decode cX7_test 122 = .ok (.getfield 110, 3) := by decide +kernel
theorem dX7_test_125 : decode cX7_test 125 = .ok (.iconst 1, 1) := by decide +kernel
theorem dX7_test_126 : decode cX7_test 126 = .ok (.iadd, 1) := by decide +kernel
theorem dX7_test_127 : decode cX7_test 127 = .ok (.putfield 110, 3) := by decide +kernel
theorem dX7_test_130 : decode cX7_test 130 = .ok (.iload_n 2, 1) := by decide +kernel
theorem dX7_test_131 : decode cX7_test 131 = .ok (.bipush 58, 2) := by decide +kernel
theorem dX7_test_133 : decode cX7_test 133 = .ok (.if_icmp .ne 5, 3) := by decide +kernel
theorem dX7_test_136 : decode cX7_test 136 = .ok (.iconst 1, 1) := by decide +kernel
theorem dX7_test_137 : decode cX7_test 137 = .ok (.ireturn, 1) := by decide +kernel
theorem dX7_test_138 : decode cX7_test 138 = .ok (.goto (-136), 3) := by decide +kernel
theorem dX7_act_0 : decode cX7_act 0 = .ok (.aload_n 0, 1) := by decide +kernel
theorem dX7_act_1 : decode cX7_act 1 = .ok (.invokevirtual 117, 3) := by decide +kernel
theorem dX7_act_4 : decode cX7_act 4 = .ok (.istore_n 1, 1) := by decide +kernel
theorem dX7_act_5 : decode cX7_act 5 = .ok (.iload_n 1, 1) := by decide +kernel
theorem dX7_act_6 : decode cX7_act 6 = .ok (.bipush 43, 2) := by decide +kernel
theorem dX7_act_8 : decode cX7_act 8 = .ok (.if_icmp .eq 17, 3) := by decide +kernel
theorem dX7_act_11 : decode cX7_act 11 = .ok (.iload_n 1, 1) := by decide +kernel
theorem dX7_act_12 : decode cX7_act 12 = .ok (.bipush 45, 2) := by decide +kernel
theorem dX7_act_14 : decode cX7_act 14 = .ok (.if_icmp .eq 11, 3) := by decide +kernel
theorem dX7_act_17 : decode cX7_act 17 = .ok (.iload_n 1, 1) := by decide +kernel
theorem dX7_act_18 : decode cX7_act 18 = .ok (.bipush 61, 2) := by decide +kernel
theorem dX7_act_20 : decode cX7_act 20 = .ok (.if_icmp .eq 5, 3) := by decide +kernel
theorem dX7_act_23 : decode cX7_act 23 = .ok (.iconst 0, 1) := by decide +kernel
theorem dX7_act_24 : decode cX7_act 24 = .ok (.ireturn, 1) := by decide +kernel
theorem dX7_act_25 : decode cX7_act 25 = .ok (.aload_n 0, 1) := by decide +kernel
theorem dX7_act_26 : decode cX7_act 26 = .ok (.dup, 1) := by decide +kernel
theorem dX7_act_27 : decode cX7_act 27 = .ok (.getfield 110, 3) := by decide +kernel
theorem dX7_act_30 : decode cX7_act 30 = .ok (.iconst 1, 1) := by decide +kernel
theorem dX7_act_31 : decode cX7_act 31 = .ok (.iadd, 1) := by decide +kernel
theorem dX7_act_32 : decode cX7_act 32 = .ok (.putfield 110, 3) := by decide +kernel
theorem dX7_act_35 : decode cX7_act 35 = .ok (.aload_n 0, 1) := by decide +kernel
theorem dX7_act_36 : decode cX7_act 36 = .ok (.invokevirtual 117, 3) := by decide +kernel
theorem dX7_act_39 : decode cX7_act 39 = .ok (.pop, 1) := by decide +kernel
theorem dX7_act_40 : decode cX7_act 40 = .ok (.aload_n 0, 1) := by decide +kernel
theorem dX7_act_41 : decode cX7_act 41 = .ok (.aload_n 0, 1) := by decide +kernel
theorem dX7_act_42 : decode cX7_act 42 = .ok (.getfield 110, 3) := by decide +kernel
theorem dX7_act_45 : decode cX7_act 45 = .ok (.invokevirtual 121, 3) := by decide +kernel
theorem dX7_act_48 : decode cX7_act 48 = .ok (.ifCond .ne 5, 3) := by decide +kernel
theorem dX7_act_51 : decode cX7_act 51 = .ok (.iconst 0, 1) := by decide +kernel
theorem dX7_act_52 : decode cX7_act 52 = .ok (.ireturn, 1) := by decide +kernel
theorem dX7_act_53 : decode cX7_act 53 = .ok (.aload_n 0, 1) := by decide +kernel
theorem dX7_act_54 : decode cX7_act 54 = .ok (.dup, 1) := by decide +kernel
theorem dX7_act_55 : decode cX7_act 55 = .ok (.getfield 110, 3) := by decide +kernel
theorem dX7_act_58 : decode cX7_act 58 = .ok (.iconst 1, 1) := by decide +kernel
theorem dX7_act_59 : decode cX7_act 59 = .ok (.iadd, 1) := by decide +kernel
theorem dX7_act_60 : decode cX7_act 60 = .ok (.putfield 110, 3) := by decide +kernel
theorem dX7_act_63 : decode cX7_act 63 = .ok (.aload_n 0, 1) := by decide +kernel
theorem dX7_act_64 : decode cX7_act 64 = .ok (.invokevirtual 117, 3) := by decide +kernel
theorem dX7_act_67 : decode cX7_act 67 = .ok (.bipush 99, 2) := by decide +kernel
theorem dX7_act_69 : decode cX7_act 69 = .ok (.if_icmp .ne 13, 3) := by decide +kernel
theorem dX7_act_72 : decode cX7_act 72 = .ok (.aload_n 0, 1) := by decide +kernel
theorem dX7_act_73 : decode cX7_act 73 = .ok (.dup, 1) := by decide +kernel
theorem dX7_act_74 : decode cX7_act 74 = .ok (.getfield 110, 3) := by decide +kernel
theorem dX7_act_77 : decode cX7_act 77 = .ok (.iconst 1, 1) := by decide +kernel
theorem dX7_act_78 : decode cX7_act 78 = .ok (.iadd, 1) := by decide +kernel
theorem dX7_act_79 : decode cX7_act 79 = .ok (.putfield 110, 3) := by decide +kernel
theorem dX7_act_82 : decode cX7_act 82 = .ok (.iconst 1, 1) := by decide +kernel
theorem dX7_act_83 : decode cX7_act 83 = .ok (.ireturn, 1) := by decide +kernel
theorem dX7_clauses_0 : decode cX7_clauses 0 = .ok (.aload_n 0, 1) := by decide +kernel
theorem dX7_clauses_1 : decode cX7_clauses 1 = .ok (.iconst 0, 1) := by decide +kernel
theorem dX7_clauses_2 : decode cX7_clauses 2 = .ok (.putfield 110, 3) := by decide +kernel
theorem dX7_clauses_5 : decode cX7_clauses 5 = .ok (.iconst 0, 1) := by decide +kernel
theorem dX7_clauses_6 : decode cX7_clauses 6 = .ok (.istore_n 1, 1) := by decide +kernel
theorem dX7_clauses_7 : decode cX7_clauses 7 = .ok (.aload_n 0, 1) := by decide +kernel
theorem dX7_clauses_8 : decode cX7_clauses 8 = .ok (.invokevirtual 128, 3) := by decide +kernel
theorem dX7_clauses_11 : decode cX7_clauses 11 = .ok (.ifCond .eq 10, 3) := by decide +kernel
theorem dX7_clauses_14 : decode cX7_clauses 14 = .ok (.aload_n 0, 1) := by decide +kernel
theorem dX7_clauses_15 : decode cX7_clauses 15 = .ok (.invokevirtual 131, 3) := by decide +kernel
theorem dX7_clauses_18 : decode cX7_clauses 18 = .ok (.ifCond .ne 10, 3) := by decide +kernel
theorem dX7_clauses_21 : decode cX7_clauses 21 = .ok (.aload_n 0, 1) := by decide +kernel
theorem dX7_clauses_22 : decode cX7_clauses 22 = .ok (.invokevirtual 117, 3) := by decide +kernel
theorem dX7_clauses_25 : decode cX7_clauses 25 = .ok (.pop, 1) := by decide +kernel
theorem dX7_clauses_26 : decode cX7_clauses 26 = .ok (.iconst (-1), 1) := by decide +kernel
theorem dX7_clauses_27 : decode cX7_clauses 27 = .ok (.ireturn, 1) := by decide +kernel
theorem dX7_clauses_28 : decode cX7_clauses 28 = .ok (.iinc 1 1, 3) := by decide +kernel
theorem dX7_clauses_31 : decode cX7_clauses 31 = .ok (.aload_n 0, 1) := by decide +kernel
theorem dX7_clauses_32 : decode cX7_clauses 32 = .ok (.invokevirtual 117, 3) := by decide +kernel
theorem dX7_clauses_35 : decode cX7_clauses 35 = .ok (.istore_n 2, 1) := by decide +kernel
theorem dX7_clauses_36 : decode cX7_clauses 36 = .ok (.iload_n 2, 1) := by decide +kernel
theorem dX7_clauses_37 : decode cX7_clauses 37 = .ok (.iconst (-1), 1) := by decide +kernel
theorem dX7_clauses_38 : decode cX7_clauses 38 = .ok (.if_icmp .ne 5, 3) := by decide +kernel
theorem dX7_clauses_41 : decode cX7_clauses 41 = .ok (.iload_n 1, 1) := by decide +kernel
theorem dX7_clauses_42 : decode cX7_clauses 42 = .ok (.ireturn, 1) := by decide +kernel
theorem dX7_clauses_43 : decode cX7_clauses 43 = .ok (.iload_n 2, 1) := by decide +kernel
theorem dX7_clauses_44 : decode cX7_clauses 44 = .ok (.bipush 59, 2) := by decide +kernel
theorem dX7_clauses_46 : decode cX7_clauses 46 = .ok (.if_icmp .ne 9, 3) := by decide +kernel
theorem dX7_clauses_49 : decode cX7_clauses 49 = .ok (.iload_n 1, 1) := by decide +kernel
theorem dX7_clauses_50 : decode cX7_clauses 50 = .ok (.bipush 6, 2) := by decide +kernel
theorem dX7_clauses_52 : decode cX7_clauses 52 = .ok (.if_icmp .ne 5, 3) := by decide +kernel
theorem dX7_clauses_55 : decode cX7_clauses 55 = .ok (.iconst (-1), 1) := by decide +kernel
theorem dX7_clauses_56 : decode cX7_clauses 56 = .ok (.ireturn, 1) := by decide +kernel
theorem dX7_clauses_57 : decode cX7_clauses 57 = .ok (.aload_n 0, 1) := by decide +kernel
theorem dX7_clauses_58 : decode cX7_clauses 58 = .ok (.dup, 1) := by decide +kernel
theorem dX7_clauses_59 : decode cX7_clauses 59 = .ok (.getfield 110, 3) := by decide +kernel
theorem dX7_clauses_62 : decode cX7_clauses 62 = .ok (.iconst 1, 1) := by decide +kernel
theorem dX7_clauses_63 : decode cX7_clauses 63 = .ok (.iadd, 1) := by decide +kernel
theorem dX7_clauses_64 : decode cX7_clauses 64 = .ok (.putfield 110, 3) := by decide +kernel
theorem dX7_clauses_67 : decode cX7_clauses 67 = .ok (.goto (-60), 3) := by decide +kernel
theorem dX7_habit_0 : decode cX7_habit 0 = .ok (.iload_n 1, 1) := by decide +kernel
theorem dX7_habit_1 : decode cX7_habit 1 = .ok (.i2l, 1) := by decide +kernel
theorem dX7_habit_2 : decode cX7_habit 2 = .ok (.lconst 0, 1) := by decide +kernel
theorem dX7_habit_3 : decode cX7_habit 3 = .ok (.ldc2_w 88, 3) := by decide +kernel
theorem dX7_habit_6 : decode cX7_habit 6 = .ok (.invokestatic 53, 3) := by decide +kernel
theorem dX7_habit_9 : decode cX7_habit 9 = .ok (.ifCond .ne 5, 3) := by decide +kernel
theorem dX7_habit_12 : decode cX7_habit 12 = .ok (.iconst (-1), 1) := by decide +kernel
theorem dX7_habit_13 : decode cX7_habit 13 = .ok (.ireturn, 1) := by decide +kernel
theorem dX7_habit_14 : decode cX7_habit 14 = .ok (.aload_n 0, 1) := by decide +kernel
theorem dX7_habit_15 : decode cX7_habit 15 = .ok (.invokevirtual 134, 3) := by decide +kernel
theorem dX7_habit_18 : decode cX7_habit 18 = .ok (.istore_n 2, 1) := by decide +kernel
theorem dX7_habit_19 : decode cX7_habit 19 = .ok (.aload_n 0, 1) := by decide +kernel
theorem dX7_habit_20 : decode cX7_habit 20 = .ok (.getfield 106, 3) := by decide +kernel
theorem dX7_habit_23 : decode cX7_habit 23 = .ok (.istore_n 3, 1) := by decide +kernel
theorem dX7_habit_24 : decode cX7_habit 24 = .ok (.aload_n 0, 1) := by decide +kernel
theorem dX7_habit_25 : decode cX7_habit 25 = .ok (.iconst 0, 1) := by decide +kernel
theorem dX7_habit_26 : decode cX7_habit 26 = .ok (.putfield 106, 3) := by decide +kernel
theorem dX7_habit_29 : decode cX7_habit 29 = .ok (.iload_n 2, 1) := by decide +kernel
theorem dX7_habit_30 : decode cX7_habit 30 = .ok (.ifCond .ge 11, 3) := by decide +kernel
theorem dX7_habit_33 : decode cX7_habit 33 = .ok (.bipush (-20), 2) := by decide +kernel
theorem dX7_habit_35 : decode cX7_habit 35 = .ok (.aload_n 0, 1) := by decide +kernel
theorem dX7_habit_36 : decode cX7_habit 36 = .ok (.getfield 110, 3) := by decide +kernel
theorem dX7_habit_39 : decode cX7_habit 39 = .ok (.isub, 1) := by decide +kernel
theorem dX7_habit_40 : decode cX7_habit 40 = .ok (.ireturn, 1) := by decide +kernel
theorem dX7_habit_41 : decode cX7_habit 41 = .ok (.iconst 0, 1) := by decide +kernel
theorem dX7_habit_42 : decode cX7_habit 42 = .ok (.istore 4, 2) := by decide +kernel
theorem dX7_habit_44 : decode cX7_habit 44 = .ok (.iload 4, 2) := by decide +kernel
theorem dX7_habit_46 : decode cX7_habit 46 = .ok (.iload_n 3, 1) := by decide +kernel
theorem dX7_habit_47 : decode cX7_habit 47 = .ok (.if_icmp .ge 31, 3) := by decide +kernel
theorem dX7_habit_50 : decode cX7_habit 50 = .ok (.aload_n 0, 1) := by decide +kernel
theorem dX7_habit_51 : decode cX7_habit 51 = .ok (.getfield 7, 3) := by decide +kernel
theorem dX7_habit_54 : decode cX7_habit 54 = .ok (.bipush 40, 2) := by decide +kernel
theorem dX7_habit_56 : decode cX7_habit 56 = .ok (.bipush 100, 2) := by decide +kernel
theorem dX7_habit_58 : decode cX7_habit 58 = .ok (.iload_n 1, 1) := by decide +kernel
theorem dX7_habit_59 : decode cX7_habit 59 = .ok (.imul, 1) := by decide +kernel
theorem dX7_habit_60 : decode cX7_habit 60 = .ok (.iadd, 1) := by decide +kernel
theorem dX7_habit_61 : decode cX7_habit 61 = .ok (.iload 4, 2) := by decide +kernel
theorem dX7_habit_63 : decode cX7_habit 63 = .ok (.iadd, 1) := by decide +kernel
theorem dX7_habit_64 : decode cX7_habit 64 = .ok (.aload_n 0, 1) := by decide +kernel
theorem dX7_habit_65 : decode cX7_habit 65 = .ok (.getfield 17, 3) := by decide +kernel
theorem dX7_habit_68 : decode cX7_habit 68 = .ok (.iload 4, 2) := by decide +kernel
theorem dX7_habit_70 : decode cX7_habit 70 = .ok (.iaload, 1) := by decide +kernel
theorem dX7_habit_71 : decode cX7_habit 71 = .ok (.iastore, 1) := by decide +kernel
theorem dX7_habit_72 : decode cX7_habit 72 = .ok (.iinc 4 1, 3) := by decide +kernel
theorem dX7_habit_75 : decode cX7_habit 75 = .ok (.goto (-31), 3) := by decide +kernel
theorem dX7_habit_78 : decode cX7_habit 78 = .ok (.aload_n 0, 1) := by decide +kernel
theorem dX7_habit_79 : decode cX7_habit 79 = .ok (.getfield 7, 3) := by decide +kernel
theorem dX7_habit_82 : decode cX7_habit 82 = .ok (.bipush 34, 2) := by decide +kernel
theorem dX7_habit_84 : decode cX7_habit 84 = .ok (.iload_n 1, 1) := by decide +kernel
theorem dX7_habit_85 : decode cX7_habit 85 = .ok (.iadd, 1) := by decide +kernel
theorem dX7_habit_86 : decode cX7_habit 86 = .ok (.iload_n 3, 1) := by decide +kernel
theorem dX7_habit_87 : decode cX7_habit 87 = .ok (.iastore, 1) := by decide +kernel
theorem dX7_habit_88 : decode cX7_habit 88 = .ok (.aload_n 0, 1) := by decide +kernel
theorem dX7_habit_89 : decode cX7_habit 89 = .ok (.getfield 7, 3) := by decide +kernel
theorem dX7_habit_92 : decode cX7_habit 92 = .ok (.bipush 37, 2) := by decide +kernel
theorem dX7_habit_94 : decode cX7_habit 94 = .ok (.iload_n 1, 1) := by decide +kernel
theorem dX7_habit_95 : decode cX7_habit 95 = .ok (.iadd, 1) := by decide +kernel
theorem dX7_habit_96 : decode cX7_habit 96 = .ok (.iload_n 2, 1) := by decide +kernel
theorem dX7_habit_97 : decode cX7_habit 97 = .ok (.iastore, 1) := by decide +kernel
theorem dX7_habit_98 : decode cX7_habit 98 = .ok (.iload_n 2, 1) := by decide +kernel
theorem dX7_habit_99 : decode cX7_habit 99 = .ok (.ireturn, 1) := by decide +kernel
theorem dX7_sign_0 : decode cX7_sign 0 = .ok (.aload_n 0, 1) := by decide +kernel
theorem dX7_sign_1 : decode cX7_sign 1 = .ok (.getfield 137, 3) := by decide +kernel
theorem dX7_sign_4 : decode cX7_sign 4 = .ok (.aload_n 0, 1) := by decide +kernel
theorem dX7_sign_5 : decode cX7_sign 5 = .ok (.getfield 140, 3) := by decide +kernel
theorem dX7_sign_8 : decode cX7_sign 8 = .ok (.if_icmp .ge 30, 3) := by decide +kernel
theorem dX7_sign_11 : decode cX7_sign 11 = .ok (.aload_n 0, 1) := by decide +kernel
theorem dX7_sign_12 : decode cX7_sign 12 = .ok (.getfield 7, 3) := by decide +kernel
theorem dX7_sign_15 : decode cX7_sign 15 = .ok (.aload_n 0, 1) := by decide +kernel
theorem dX7_sign_16 : decode cX7_sign 16 = .ok (.getfield 137, 3) := by decide +kernel
theorem dX7_sign_19 : decode cX7_sign 19 = .ok (.iaload, 1) := by decide +kernel
theorem dX7_sign_20 : decode cX7_sign 20 = .ok (.bipush 32, 2) := by decide +kernel
theorem dX7_sign_22 : decode cX7_sign 22 = .ok (.if_icmp .ne 16, 3) := by decide +kernel
theorem dX7_sign_25 : decode cX7_sign 25 = .ok (.aload_n 0, 1) := by decide +kernel
theorem dX7_sign_26 : decode cX7_sign 26 = .ok (.dup, 1) := by decide +kernel
theorem dX7_sign_27 : decode cX7_sign 27 = .ok (.getfield 137, 3) := by decide +kernel
theorem dX7_sign_30 : decode cX7_sign 30 = .ok (.iconst 1, 1) := by decide +kernel
theorem dX7_sign_31 : decode cX7_sign 31 = .ok (.iadd, 1) := by decide +kernel
theorem dX7_sign_32 : decode cX7_sign 32 = .ok (.putfield 137, 3) := by decide +kernel
theorem dX7_sign_35 : decode cX7_sign 35 = .ok (.goto (-35), 3) := by decide +kernel
theorem dX7_sign_38 : decode cX7_sign 38 = .ok (.aload_n 0, 1) := by decide +kernel
theorem dX7_sign_39 : decode cX7_sign 39 = .ok (.getfield 137, 3) := by decide +kernel
theorem dX7_sign_42 : decode cX7_sign 42 = .ok (.aload_n 0, 1) := by decide +kernel
theorem dX7_sign_43 : decode cX7_sign 43 = .ok (.getfield 140, 3) := by decide +kernel
theorem dX7_sign_46 : decode cX7_sign 46 = .ok (.if_icmp .ge 15, 3) := by decide +kernel
theorem dX7_sign_49 : decode cX7_sign 49 = .ok (.aload_n 0, 1) := by decide +kernel
theorem dX7_sign_50 : decode cX7_sign 50 = .ok (.getfield 7, 3) := by decide +kernel
theorem dX7_sign_53 : decode cX7_sign 53 = .ok (.aload_n 0, 1) := by decide +kernel
theorem dX7_sign_54 : decode cX7_sign 54 = .ok (.getfield 137, 3) := by decide +kernel
theorem dX7_sign_57 : decode cX7_sign 57 = .ok (.iaload, 1) := by decide +kernel
theorem dX7_sign_58 : decode cX7_sign 58 = .ok (.goto 4, 3) := by decide +kernel
theorem dX7_sign_61 : decode cX7_sign 61 = .ok (.iconst (-1), 1) := by decide +kernel
theorem dX7_sign_62 : decode cX7_sign 62 = .ok (.ireturn, 1) := by decide +kernel
theorem dX7_take_0 : decode cX7_take 0 = .ok (.aload_n 0, 1) := by decide +kernel
theorem dX7_take_1 : decode cX7_take 1 = .ok (.invokevirtual 143, 3) := by decide +kernel
theorem dX7_take_4 : decode cX7_take 4 = .ok (.istore_n 1, 1) := by decide +kernel
theorem dX7_take_5 : decode cX7_take 5 = .ok (.aload_n 0, 1) := by decide +kernel
theorem dX7_take_6 : decode cX7_take 6 = .ok (.dup, 1) := by decide +kernel
theorem dX7_take_7 : decode cX7_take 7 = .ok (.getfield 137, 3) := by decide +kernel
theorem dX7_take_10 : decode cX7_take 10 = .ok (.iconst 1, 1) := by decide +kernel
theorem dX7_take_11 : decode cX7_take 11 = .ok (.iadd, 1) := by decide +kernel
theorem dX7_take_12 : decode cX7_take 12 = .ok (.putfield 137, 3) := by decide +kernel
theorem dX7_take_15 : decode cX7_take 15 = .ok (.iload_n 1, 1) := by decide +kernel
theorem dX7_take_16 : decode cX7_take 16 = .ok (.ireturn, 1) := by decide +kernel
theorem dX7_digits_0 : decode cX7_digits 0 = .ok (.aload_n 0, 1) := by decide +kernel
theorem dX7_digits_1 : decode cX7_digits 1 = .ok (.invokevirtual 146, 3) := by decide +kernel
theorem dX7_digits_4 : decode cX7_digits 4 = .ok (.bipush 48, 2) := by decide +kernel
theorem dX7_digits_6 : decode cX7_digits 6 = .ok (.isub, 1) := by decide +kernel
theorem dX7_digits_7 : decode cX7_digits 7 = .ok (.istore_n 1, 1) := by decide +kernel
theorem dX7_digits_8 : decode cX7_digits 8 = .ok (.aload_n 0, 1) := by decide +kernel
theorem dX7_digits_9 : decode cX7_digits 9 = .ok (.getfield 137, 3) := by decide +kernel
theorem dX7_digits_12 : decode cX7_digits 12 = .ok (.aload_n 0, 1) := by decide +kernel
theorem dX7_digits_13 : decode cX7_digits 13 = .ok (.getfield 140, 3) := by decide +kernel
theorem dX7_digits_16 : decode cX7_digits 16 = .ok (.if_icmp .ge 53, 3) := by decide +kernel
theorem dX7_digits_19 : decode cX7_digits 19 = .ok (.aload_n 0, 1) := by decide +kernel
theorem dX7_digits_20 : decode cX7_digits 20 = .ok (.getfield 7, 3) := by decide +kernel
theorem dX7_digits_23 : decode cX7_digits 23 = .ok (.aload_n 0, 1) := by decide +kernel
theorem dX7_digits_24 : decode cX7_digits 24 = .ok (.getfield 137, 3) := by decide +kernel
theorem dX7_digits_27 : decode cX7_digits 27 = .ok (.iaload, 1) := by decide +kernel
theorem dX7_digits_28 : decode cX7_digits 28 = .ok (.i2l, 1) := by decide +kernel
theorem dX7_digits_29 : decode cX7_digits 29 = .ok (.ldc2_w 113, 3) := by decide +kernel
theorem dX7_digits_32 : decode cX7_digits 32 = .ok (.ldc2_w 115, 3) := by decide +kernel
theorem dX7_digits_35 : decode cX7_digits 35 = .ok (.invokestatic 53, 3) := by decide +kernel
theorem dX7_digits_38 : decode cX7_digits 38 = .ok (.ifCond .eq 31, 3) := by decide +kernel
theorem dX7_digits_41 : decode cX7_digits 41 = .ok (.bipush 10, 2) := by decide +kernel
theorem dX7_digits_43 : decode cX7_digits 43 = .ok (.iload_n 1, 1) := by decide +kernel
theorem dX7_digits_44 : decode cX7_digits 44 = .ok (.imul, 1) := by decide +kernel
theorem dX7_digits_45 : decode cX7_digits 45 = .ok (.aload_n 0, 1) := by decide +kernel
theorem dX7_digits_46 : decode cX7_digits 46 = .ok (.getfield 7, 3) := by decide +kernel
theorem dX7_digits_49 : decode cX7_digits 49 = .ok (.aload_n 0, 1) := by decide +kernel
theorem dX7_digits_50 : decode cX7_digits 50 = .ok (.getfield 137, 3) := by decide +kernel
theorem dX7_digits_53 : decode cX7_digits 53 = .ok (.iaload, 1) := by decide +kernel
theorem dX7_digits_54 : decode cX7_digits 54 = .ok (.iadd, 1) := by decide +kernel
theorem dX7_digits_55 : decode cX7_digits 55 = .ok (.bipush 48, 2) := by decide +kernel
theorem dX7_digits_57 : decode cX7_digits 57 = .ok (.isub, 1) := by decide +kernel
theorem dX7_digits_58 : decode cX7_digits 58 = .ok (.istore_n 1, 1) := by decide +kernel
theorem dX7_digits_59 : decode cX7_digits 59 = .ok (.aload_n 0, 1) := by decide +kernel
theorem dX7_digits_60 : decode cX7_digits 60 = .ok (.dup, 1) := by decide +kernel
theorem dX7_digits_61 : decode cX7_digits 61 = .ok (.getfield 137, 3) := by decide +kernel
theorem dX7_digits_64 : decode cX7_digits 64 = .ok (.iconst 1, 1) := by decide +kernel
theorem dX7_digits_65 : decode cX7_digits 65 = .ok (.iadd, 1) := by decide +kernel
theorem dX7_digits_66 : decode cX7_digits 66 = .ok (.putfield 137, 3) := by decide +kernel
theorem dX7_digits_69 : decode cX7_digits 69 = .ok (.iload_n 1, 1) := by decide +kernel
theorem dX7_digits_70 : decode cX7_digits 70 = .ok (.ireturn, 1) := by decide +kernel
theorem dX7_claimHolds_0 : decode cX7_claimHolds 0 = .ok (.aload_n 0, 1) := by decide +kernel
theorem dX7_claimHolds_1 : decode cX7_claimHolds 1 = .ok (.invokevirtual 146, 3) := by decide +kernel
theorem dX7_claimHolds_4 : decode cX7_claimHolds 4 = .ok (.istore 5, 2) := by decide +kernel
theorem dX7_claimHolds_6 : decode cX7_claimHolds 6 = .ok (.iload 5, 2) := by decide +kernel
theorem dX7_claimHolds_8 : decode cX7_claimHolds 8 = .ok (.bipush 42, 2) := by decide +kernel
theorem dX7_claimHolds_10 : decode cX7_claimHolds 10 = .ok (.if_icmp .ne 5, 3) := by decide +kernel
theorem dX7_claimHolds_13 : decode cX7_claimHolds 13 = .ok (.iconst 1, 1) := by decide +kernel
theorem dX7_claimHolds_14 : decode cX7_claimHolds 14 = .ok (.ireturn, 1) := by decide +kernel
theorem dX7_claimHolds_15 : decode cX7_claimHolds 15 = .ok (.iload 5, 2) := by decide +kernel
theorem dX7_claimHolds_17 : decode cX7_claimHolds 17 = .ok (.bipush 103, 2) := by decide +kernel
theorem dX7_claimHolds_19 : decode cX7_claimHolds 19 = .ok (.if_icmp .ne 7, 3) := by decide +kernel
theorem dX7_claimHolds_22 : decode cX7_claimHolds 22 = .ok (.iload_n 1, 1) := by decide +kernel
theorem dX7_claimHolds_23 : decode cX7_claimHolds 23 = .ok (.goto 27, 3) := by decide +kernel
theorem dX7_claimHolds_26 : decode cX7_claimHolds 26 = .ok (.iload 5, 2) := by decide +kernel
theorem dX7_claimHolds_28 : decode cX7_claimHolds 28 = .ok (.bipush 100, 2) := by decide +kernel
theorem dX7_claimHolds_30 : decode cX7_claimHolds 30 = .ok (.if_icmp .ne 7, 3) := by decide +kernel
theorem dX7_claimHolds_33 : decode cX7_claimHolds 33 = .ok (.iload_n 2, 1) := by decide +kernel
theorem dX7_claimHolds_34 : decode cX7_claimHolds 34 = .ok (.goto 16, 3) := by decide +kernel
theorem dX7_claimHolds_37 : decode cX7_claimHolds 37 = .ok (.iload 5, 2) := by decide +kernel
theorem dX7_claimHolds_39 : decode cX7_claimHolds 39 = .ok (.bipush 111, 2) := by decide +kernel
theorem dX7_claimHolds_41 : decode cX7_claimHolds 41 = .ok (.if_icmp .ne 7, 3) := by decide +kernel
theorem dX7_claimHolds_44 : decode cX7_claimHolds 44 = .ok (.iload_n 3, 1) := by decide +kernel
theorem dX7_claimHolds_45 : decode cX7_claimHolds 45 = .ok (.goto 5, 3) := by decide +kernel
theorem dX7_claimHolds_48 : decode cX7_claimHolds 48 = .ok (.iload 4, 2) := by decide +kernel
theorem dX7_claimHolds_50 : decode cX7_claimHolds 50 = .ok (.istore 6, 2) := by decide +kernel
theorem dX7_claimHolds_52 : decode cX7_claimHolds 52 = .ok (.aload_n 0, 1) := by decide +kernel
theorem dX7_claimHolds_53 : decode cX7_claimHolds 53 = .ok (.invokevirtual 146, 3) := by decide +kernel
theorem dX7_claimHolds_56 : decode cX7_claimHolds 56 = .ok (.istore 7, 2) := by decide +kernel
theorem dX7_claimHolds_58 : decode cX7_claimHolds 58 = .ok (.aload_n 0, 1) := by decide +kernel
theorem dX7_claimHolds_59 : decode cX7_claimHolds 59 = .ok (.invokevirtual 143, 3) := by decide +kernel
theorem dX7_claimHolds_62 : decode cX7_claimHolds 62 = .ok (.bipush 45, 2) := by decide +kernel
theorem dX7_claimHolds_64 : decode cX7_claimHolds 64 = .ok (.if_icmp .ne 7, 3) := by decide +kernel
theorem dX7_claimHolds_67 : decode cX7_claimHolds 67 = .ok (.iconst 1, 1) := by decide +kernel
theorem dX7_claimHolds_68 : decode cX7_claimHolds 68 = .ok (.goto 4, 3) := by decide +kernel
theorem dX7_claimHolds_71 : decode cX7_claimHolds 71 = .ok (.iconst 0, 1) := by decide +kernel
theorem dX7_claimHolds_72 : decode cX7_claimHolds 72 = .ok (.istore 8, 2) := by decide +kernel
theorem dX7_claimHolds_74 : decode cX7_claimHolds 74 = .ok (.aload_n 0, 1) := by decide +kernel
theorem dX7_claimHolds_75 : decode cX7_claimHolds 75 = .ok (.iload 8, 2) := by decide +kernel
theorem dX7_claimHolds_77 : decode cX7_claimHolds 77 = .ok (.ifCond .eq 12, 3) := by decide +kernel
theorem dX7_claimHolds_80 : decode cX7_claimHolds 80 = .ok (.aload_n 0, 1) := by decide +kernel
theorem dX7_claimHolds_81 : decode cX7_claimHolds 81 = .ok (.getfield 137, 3) := by decide +kernel
theorem dX7_claimHolds_84 : decode cX7_claimHolds 84 = .ok (.iconst 1, 1) := by decide +kernel
theorem dX7_claimHolds_85 : decode cX7_claimHolds 85 = .ok (.iadd, 1) := by decide +kernel
theorem dX7_claimHolds_86 : decode cX7_claimHolds 86 = .ok (.goto 7, 3) := by decide +kernel
theorem dX7_claimHolds_89 : decode cX7_claimHolds 89 = .ok (.aload_n 0, 1) := by decide +kernel
theorem dX7_claimHolds_90 : decode cX7_claimHolds 90 = .ok (.getfield 137, 3) := by decide +kernel
theorem dX7_claimHolds_93 : decode cX7_claimHolds 93 = .ok (.putfield 137, 3) := by decide +kernel
theorem dX7_claimHolds_96 : decode cX7_claimHolds 96 = .ok (.aload_n 0, 1) := by decide +kernel
theorem dX7_claimHolds_97 : decode cX7_claimHolds 97 = .ok (.invokevirtual 149, 3) := by decide +kernel
theorem dX7_claimHolds_100 : decode cX7_claimHolds 100 = .ok (.istore 9, 2) := by decide +kernel
theorem dX7_claimHolds_102 : decode cX7_claimHolds 102 = .ok (.iload 8, 2) := by decide +kernel
theorem dX7_claimHolds_104 : decode cX7_claimHolds 104 = .ok (.ifCond .eq 9, 3) := by decide +kernel
theorem dX7_claimHolds_107 : decode cX7_claimHolds 107 = .ok (.iload 9, 2) := by decide +kernel
theorem dX7_claimHolds_109 : decode cX7_claimHolds 109 = .ok (.ineg, 1) := by decide +kernel
theorem dX7_claimHolds_110 : decode cX7_claimHolds 110 = .ok (.goto 5, 3) := by decide +kernel
theorem dX7_claimHolds_113 : decode cX7_claimHolds 113 = .ok (.iload 9, 2) := by decide +kernel
theorem dX7_claimHolds_115 : decode cX7_claimHolds 115 = .ok (.istore 9, 2) := by decide +kernel
theorem dX7_claimHolds_117 : decode cX7_claimHolds 117 = .ok (.iload 7, 2) := by decide +kernel
theorem dX7_claimHolds_119 : decode cX7_claimHolds 119 = .ok (.bipush 60, 2) := by decide +kernel
theorem dX7_claimHolds_121 : decode cX7_claimHolds 121 = .ok (.if_icmp .ne 18, 3) := by decide +kernel
theorem dX7_claimHolds_124 : decode cX7_claimHolds 124 = .ok (.iload 6, 2) := by decide +kernel
theorem dX7_claimHolds_126 : decode cX7_claimHolds 126 = .ok (.iload 9, 2) := by decide +kernel
theorem dX7_claimHolds_128 : decode cX7_claimHolds 128 = .ok (.if_icmp .ge 7, 3) := by decide +kernel
theorem dX7_claimHolds_131 : decode cX7_claimHolds 131 = .ok (.iconst 1, 1) := by decide +kernel
theorem dX7_claimHolds_132 : decode cX7_claimHolds 132 = .ok (.goto 41, 3) := by decide +kernel
theorem dX7_claimHolds_135 : decode cX7_claimHolds 135 = .ok (.iconst 0, 1) := by decide +kernel
theorem dX7_claimHolds_136 : decode cX7_claimHolds 136 = .ok (.goto 37, 3) := by decide +kernel
theorem dX7_claimHolds_139 : decode cX7_claimHolds 139 = .ok (.iload 7, 2) := by decide +kernel
theorem dX7_claimHolds_141 : decode cX7_claimHolds 141 = .ok (.bipush 62, 2) := by decide +kernel
theorem dX7_claimHolds_143 : decode cX7_claimHolds 143 = .ok (.if_icmp .ne 18, 3) := by decide +kernel
theorem dX7_claimHolds_146 : decode cX7_claimHolds 146 = .ok (.iload 6, 2) := by decide +kernel
theorem dX7_claimHolds_148 : decode cX7_claimHolds 148 = .ok (.iload 9, 2) := by decide +kernel
theorem dX7_claimHolds_150 : decode cX7_claimHolds 150 = .ok (.if_icmp .le 7, 3) := by decide +kernel
theorem dX7_claimHolds_153 : decode cX7_claimHolds 153 = .ok (.iconst 1, 1) := by decide +kernel
theorem dX7_claimHolds_154 : decode cX7_claimHolds 154 = .ok (.goto 19, 3) := by decide +kernel
theorem dX7_claimHolds_157 : decode cX7_claimHolds 157 = .ok (.iconst 0, 1) := by decide +kernel
theorem dX7_claimHolds_158 : decode cX7_claimHolds 158 = .ok (.goto 15, 3) := by decide +kernel
theorem dX7_claimHolds_161 : decode cX7_claimHolds 161 = .ok (.iload 6, 2) := by decide +kernel
theorem dX7_claimHolds_163 : decode cX7_claimHolds 163 = .ok (.iload 9, 2) := by decide +kernel
theorem dX7_claimHolds_165 : decode cX7_claimHolds 165 = .ok (.if_icmp .ne 7, 3) := by decide +kernel
theorem dX7_claimHolds_168 : decode cX7_claimHolds 168 = .ok (.iconst 1, 1) := by decide +kernel
theorem dX7_claimHolds_169 : decode cX7_claimHolds 169 = .ok (.goto 4, 3) := by decide +kernel
theorem dX7_claimHolds_172 : decode cX7_claimHolds 172 = .ok (.iconst 0, 1) := by decide +kernel
theorem dX7_claimHolds_173 : decode cX7_claimHolds 173 = .ok (.ireturn, 1) := by decide +kernel
theorem dX7_testHolds_0 : decode cX7_testHolds 0 = .ok (.iconst 0, 1) := by decide +kernel
theorem dX7_testHolds_1 : decode cX7_testHolds 1 = .ok (.istore 5, 2) := by decide +kernel
theorem dX7_testHolds_3 : decode cX7_testHolds 3 = .ok (.aload_n 0, 1) := by decide +kernel
theorem dX7_testHolds_4 : decode cX7_testHolds 4 = .ok (.getfield 38, 3) := by decide +kernel
theorem dX7_testHolds_7 : decode cX7_testHolds 7 = .ok (.iconst 0, 1) := by decide +kernel
theorem dX7_testHolds_8 : decode cX7_testHolds 8 = .ok (.iconst 0, 1) := by decide +kernel
theorem dX7_testHolds_9 : decode cX7_testHolds 9 = .ok (.bastore, 1) := by decide +kernel
theorem dX7_testHolds_10 : decode cX7_testHolds 10 = .ok (.aload_n 0, 1) := by decide +kernel
theorem dX7_testHolds_11 : decode cX7_testHolds 11 = .ok (.getfield 41, 3) := by decide +kernel
theorem dX7_testHolds_14 : decode cX7_testHolds 14 = .ok (.iconst 0, 1) := by decide +kernel
theorem dX7_testHolds_15 : decode cX7_testHolds 15 = .ok (.iconst 1, 1) := by decide +kernel
theorem dX7_testHolds_16 : decode cX7_testHolds 16 = .ok (.bastore, 1) := by decide +kernel
theorem dX7_testHolds_17 : decode cX7_testHolds 17 = .ok (.aload_n 0, 1) := by decide +kernel
theorem dX7_testHolds_18 : decode cX7_testHolds 18 = .ok (.invokevirtual 143, 3) := by decide +kernel
theorem dX7_testHolds_21 : decode cX7_testHolds 21 = .ok (.bipush 33, 2) := by decide +kernel
theorem dX7_testHolds_23 : decode cX7_testHolds 23 = .ok (.if_icmp .ne 7, 3) := by decide +kernel
theorem dX7_testHolds_26 : decode cX7_testHolds 26 = .ok (.iconst 1, 1) := by decide +kernel
theorem dX7_testHolds_27 : decode cX7_testHolds 27 = .ok (.goto 4, 3) := by decide +kernel
theorem dX7_testHolds_30 : decode cX7_testHolds 30 = .ok (.iconst 0, 1) := by decide +kernel
theorem dX7_testHolds_31 : decode cX7_testHolds 31 = .ok (.istore 6, 2) := by decide +kernel
theorem dX7_testHolds_33 : decode cX7_testHolds 33 = .ok (.aload_n 0, 1) := by decide +kernel
theorem dX7_testHolds_34 : decode cX7_testHolds 34 = .ok (.iload 6, 2) := by decide +kernel
theorem dX7_testHolds_36 : decode cX7_testHolds 36 = .ok (.ifCond .eq 12, 3) := by decide +kernel
theorem dX7_testHolds_39 : decode cX7_testHolds 39 = .ok (.aload_n 0, 1) := by decide +kernel
theorem dX7_testHolds_40 : decode cX7_testHolds 40 = .ok (.getfield 137, 3) := by decide +kernel
theorem dX7_testHolds_43 : decode cX7_testHolds 43 = .ok (.iconst 1, 1) := by decide +kernel
theorem dX7_testHolds_44 : decode cX7_testHolds 44 = .ok (.iadd, 1) := by decide +kernel
theorem dX7_testHolds_45 : decode cX7_testHolds 45 = .ok (.goto 7, 3) := by decide +kernel
theorem dX7_testHolds_48 : decode cX7_testHolds 48 = .ok (.aload_n 0, 1) := by decide +kernel
theorem dX7_testHolds_49 : decode cX7_testHolds 49 = .ok (.getfield 137, 3) := by decide +kernel
theorem dX7_testHolds_52 : decode cX7_testHolds 52 = .ok (.putfield 137, 3) := by decide +kernel
theorem dX7_testHolds_55 : decode cX7_testHolds 55 = .ok (.aload_n 0, 1) := by decide +kernel
theorem dX7_testHolds_56 : decode cX7_testHolds 56 = .ok (.invokevirtual 143, 3) := by decide +kernel
theorem dX7_testHolds_59 : decode cX7_testHolds 59 = .ok (.bipush 40, 2) := by decide +kernel
theorem dX7_testHolds_61 : decode cX7_testHolds 61 = .ok (.if_icmp .ne 44, 3) := by decide +kernel
theorem dX7_testHolds_64 : decode cX7_testHolds 64 = .ok (.aload_n 0, 1) := by decide +kernel
theorem dX7_testHolds_65 : decode cX7_testHolds 65 = .ok (.dup, 1) := by decide +kernel
theorem dX7_testHolds_66 : decode cX7_testHolds 66 = .ok (.getfield 137, 3) := by decide +kernel
theorem dX7_testHolds_69 : decode cX7_testHolds 69 = .ok (.iconst 1, 1) := by decide +kernel
theorem dX7_testHolds_70 : decode cX7_testHolds 70 = .ok (.iadd, 1) := by decide +kernel
theorem dX7_testHolds_71 : decode cX7_testHolds 71 = .ok (.putfield 137, 3) := by decide +kernel
theorem dX7_testHolds_74 : decode cX7_testHolds 74 = .ok (.iinc 5 1, 3) := by decide +kernel
theorem dX7_testHolds_77 : decode cX7_testHolds 77 = .ok (.aload_n 0, 1) := by decide +kernel
theorem dX7_testHolds_78 : decode cX7_testHolds 78 = .ok (.getfield 38, 3) := by decide +kernel
theorem dX7_testHolds_81 : decode cX7_testHolds 81 = .ok (.iload 5, 2) := by decide +kernel
theorem dX7_testHolds_83 : decode cX7_testHolds 83 = .ok (.iconst 0, 1) := by decide +kernel
theorem dX7_testHolds_84 : decode cX7_testHolds 84 = .ok (.bastore, 1) := by decide +kernel
theorem dX7_testHolds_85 : decode cX7_testHolds 85 = .ok (.aload_n 0, 1) := by decide +kernel
theorem dX7_testHolds_86 : decode cX7_testHolds 86 = .ok (.getfield 41, 3) := by decide +kernel
theorem dX7_testHolds_89 : decode cX7_testHolds 89 = .ok (.iload 5, 2) := by decide +kernel
theorem dX7_testHolds_91 : decode cX7_testHolds 91 = .ok (.iconst 1, 1) := by decide +kernel
theorem dX7_testHolds_92 : decode cX7_testHolds 92 = .ok (.bastore, 1) := by decide +kernel
theorem dX7_testHolds_93 : decode cX7_testHolds 93 = .ok (.aload_n 0, 1) := by decide +kernel
theorem dX7_testHolds_94 : decode cX7_testHolds 94 = .ok (.getfield 44, 3) := by decide +kernel
theorem dX7_testHolds_97 : decode cX7_testHolds 97 = .ok (.iload 5, 2) := by decide +kernel
theorem dX7_testHolds_99 : decode cX7_testHolds 99 = .ok (.iload 6, 2) := by decide +kernel
theorem dX7_testHolds_101 : decode cX7_testHolds 101 = .ok (.bastore, 1) := by decide +kernel
theorem dX7_testHolds_102 : decode cX7_testHolds 102 = .ok (.goto 229, 3) := by decide +kernel
theorem dX7_testHolds_105 : decode cX7_testHolds 105 = .ok (.aload_n 0, 1) := by decide +kernel
theorem dX7_testHolds_106 : decode cX7_testHolds 106 = .ok (.iload_n 1, 1) := by decide +kernel
theorem dX7_testHolds_107 : decode cX7_testHolds 107 = .ok (.iload_n 2, 1) := by decide +kernel
theorem dX7_testHolds_108 : decode cX7_testHolds 108 = .ok (.iload_n 3, 1) := by decide +kernel
theorem dX7_testHolds_109 : decode cX7_testHolds 109 = .ok (.iload 4, 2) := by decide +kernel
theorem dX7_testHolds_111 : decode cX7_testHolds 111 = .ok (.invokevirtual 152, 3) := by decide +kernel
theorem dX7_testHolds_114 : decode cX7_testHolds 114 = .ok (.iload 6, 2) := by decide +kernel
theorem dX7_testHolds_116 : decode cX7_testHolds 116 = .ok (.if_icmp .eq 7, 3) := by decide +kernel
theorem dX7_testHolds_119 : decode cX7_testHolds 119 = .ok (.iconst 1, 1) := by decide +kernel
theorem dX7_testHolds_120 : decode cX7_testHolds 120 = .ok (.goto 4, 3) := by decide +kernel
theorem dX7_testHolds_123 : decode cX7_testHolds 123 = .ok (.iconst 0, 1) := by decide +kernel
theorem dX7_testHolds_124 : decode cX7_testHolds 124 = .ok (.istore 7, 2) := by decide +kernel
theorem dX7_testHolds_126 : decode cX7_testHolds 126 = .ok (.aload_n 0, 1) := by decide +kernel
theorem dX7_testHolds_127 : decode cX7_testHolds 127 = .ok (.getfield 41, 3) := by decide +kernel
theorem dX7_testHolds_130 : decode cX7_testHolds 130 = .ok (.iload 5, 2) := by decide +kernel
theorem dX7_testHolds_132 : decode cX7_testHolds 132 = .ok (.aload_n 0, 1) := by decide +kernel
theorem dX7_testHolds_133 : decode cX7_testHolds 133 = .ok (.getfield 41, 3) := by decide +kernel
theorem dX7_testHolds_136 : decode cX7_testHolds 136 = .ok (.iload 5, 2) := by decide +kernel
theorem dX7_testHolds_138 : decode cX7_testHolds 138 = .ok (.baload, 1) := by decide +kernel
theorem dX7_testHolds_139 : decode cX7_testHolds 139 = .ok (.ifCond .eq 12, 3) := by decide +kernel
theorem dX7_testHolds_142 : decode cX7_testHolds 142 = .ok (.iload 7, 2) := by decide +kernel
theorem dX7_testHolds_144 : decode cX7_testHolds 144 = .ok (.ifCond .eq 7, 3) := by decide +kernel
theorem dX7_testHolds_147 : decode cX7_testHolds 147 = .ok (.iconst 1, 1) := by decide +kernel
theorem dX7_testHolds_148 : decode cX7_testHolds 148 = .ok (.goto 4, 3) := by decide +kernel
theorem dX7_testHolds_151 : decode cX7_testHolds 151 = .ok (.iconst 0, 1) := by decide +kernel
theorem dX7_testHolds_152 : decode cX7_testHolds 152 = .ok (.bastore, 1) := by decide +kernel
theorem dX7_testHolds_153 : decode cX7_testHolds 153 = .ok (.aload_n 0, 1) := by decide +kernel
theorem dX7_testHolds_154 : decode cX7_testHolds 154 = .ok (.invokevirtual 143, 3) := by decide +kernel
theorem dX7_testHolds_157 : decode cX7_testHolds 157 = .ok (.bipush 41, 2) := by decide +kernel
theorem dX7_testHolds_159 : decode cX7_testHolds 159 = .ok (.if_icmp .ne 88, 3) := by decide +kernel
theorem dX7_testHolds_162 : decode cX7_testHolds 162 = .ok (.aload_n 0, 1) := by decide +kernel
theorem dX7_testHolds_163 : decode cX7_testHolds 163 = .ok (.getfield 38, 3) := by decide +kernel
theorem dX7_testHolds_166 : decode cX7_testHolds 166 = .ok (.iload 5, 2) := by decide +kernel
theorem dX7_testHolds_168 : decode cX7_testHolds 168 = .ok (.baload, 1) := by decide +kernel
theorem dX7_testHolds_169 : decode cX7_testHolds 169 = .ok (.ifCond .ne 13, 3) := by decide +kernel
theorem dX7_testHolds_172 : decode cX7_testHolds 172 = .ok (.aload_n 0, 1) := by decide +kernel
theorem dX7_testHolds_173 : decode cX7_testHolds 173 = .ok (.getfield 41, 3) := by decide +kernel
theorem dX7_testHolds_176 : decode cX7_testHolds 176 = .ok (.iload 5, 2) := by decide +kernel
theorem dX7_testHolds_178 : decode cX7_testHolds 178 = .ok (.baload, 1) := by decide +kernel
theorem dX7_testHolds_179 : decode cX7_testHolds 179 = .ok (.ifCond .eq 7, 3) := by decide +kernel
theorem dX7_testHolds_182 : decode cX7_testHolds 182 = .ok (.iconst 1, 1) := by decide +kernel
theorem dX7_testHolds_183 : decode cX7_testHolds 183 = .ok (.goto 4, 3) := by decide +kernel
theorem dX7_testHolds_186 : decode cX7_testHolds 186 = .ok (.iconst 0, 1) := by decide +kernel
theorem dX7_testHolds_187 : decode cX7_testHolds 187 = .ok (.aload_n 0, 1) := by decide +kernel
theorem dX7_testHolds_188 : decode cX7_testHolds 188 = .ok (.getfield 44, 3) := by decide +kernel
theorem dX7_testHolds_191 : decode cX7_testHolds 191 = .ok (.iload 5, 2) := by decide +kernel
theorem dX7_testHolds_193 : decode cX7_testHolds 193 = .ok (.baload, 1) := by decide +kernel
theorem dX7_testHolds_194 : decode cX7_testHolds 194 = .ok (.if_icmp .eq 7, 3) := by decide +kernel
theorem dX7_testHolds_197 : decode cX7_testHolds 197 = .ok (.iconst 1, 1) := by decide +kernel
theorem dX7_testHolds_198 : decode cX7_testHolds 198 = .ok (.goto 4, 3) := by decide +kernel
theorem dX7_testHolds_201 : decode cX7_testHolds 201 = .ok (.iconst 0, 1) := by decide +kernel
theorem dX7_testHolds_202 : decode cX7_testHolds 202 = .ok (.istore 8, 2) := by decide +kernel
theorem dX7_testHolds_204 : decode cX7_testHolds 204 = .ok (.aload_n 0, 1) := by decide +kernel
theorem dX7_testHolds_205 : decode cX7_testHolds 205 = .ok (.dup, 1) := by decide +kernel
theorem dX7_testHolds_206 : decode cX7_testHolds 206 = .ok (.getfield 137, 3) := by decide +kernel
theorem dX7_testHolds_209 : decode cX7_testHolds 209 = .ok (.iconst 1, 1) := by decide +kernel
theorem dX7_testHolds_210 : decode cX7_testHolds 210 = .ok (.iadd, 1) := by decide +kernel
theorem dX7_testHolds_211 : decode cX7_testHolds 211 = .ok (.putfield 137, 3) := by decide +kernel
theorem dX7_testHolds_214 : decode cX7_testHolds 214 = .ok (.iinc 5 (-1), 3) := by decide +kernel
theorem dX7_testHolds_217 : decode cX7_testHolds 217 = .ok (.aload_n 0, 1) := by decide +kernel
theorem dX7_testHolds_218 : decode cX7_testHolds 218 = .ok (.getfield 41, 3) := by decide +kernel
theorem dX7_testHolds_221 : decode cX7_testHolds 221 = .ok (.iload 5, 2) := by decide +kernel
theorem dX7_testHolds_223 : decode cX7_testHolds 223 = .ok (.aload_n 0, 1) := by decide +kernel
theorem dX7_testHolds_224 : decode cX7_testHolds 224 = .ok (.getfield 41, 3) := by decide +kernel
theorem dX7_testHolds_227 : decode cX7_testHolds 227 = .ok (.iload 5, 2) := by decide +kernel
theorem dX7_testHolds_229 : decode cX7_testHolds 229 = .ok (.baload, 1) := by decide +kernel
theorem dX7_testHolds_230 : decode cX7_testHolds 230 = .ok (.ifCond .eq 12, 3) := by decide +kernel
theorem dX7_testHolds_233 : decode cX7_testHolds 233 = .ok (.iload 8, 2) := by decide +kernel
theorem dX7_testHolds_235 : decode cX7_testHolds 235 = .ok (.ifCond .eq 7, 3) := by decide +kernel
theorem dX7_testHolds_238 : decode cX7_testHolds 238 = .ok (.iconst 1, 1) := by decide +kernel
theorem dX7_testHolds_239 : decode cX7_testHolds 239 = .ok (.goto 4, 3) := by decide +kernel
theorem dX7_testHolds_242 : decode cX7_testHolds 242 = .ok (.iconst 0, 1) := by decide +kernel
theorem dX7_testHolds_243 : decode cX7_testHolds 243 = .ok (.bastore, 1) := by decide +kernel
theorem dX7_testHolds_244 : decode cX7_testHolds 244 = .ok (.goto (-91), 3) := by decide +kernel
theorem dX7_testHolds_247 : decode cX7_testHolds 247 = .ok (.aload_n 0, 1) := by decide +kernel
theorem dX7_testHolds_248 : decode cX7_testHolds 248 = .ok (.invokevirtual 146, 3) := by decide +kernel
theorem dX7_testHolds_251 : decode cX7_testHolds 251 = .ok (.istore 8, 2) := by decide +kernel
theorem dX7_testHolds_253 : decode cX7_testHolds 253 = .ok (.iload 8, 2) := by decide +kernel
theorem dX7_testHolds_255 : decode cX7_testHolds 255 = .ok (.bipush 58, 2) := by decide +kernel
theorem dX7_testHolds_257 : decode cX7_testHolds 257 = .ok (.if_icmp .ne 27, 3) := by decide +kernel
theorem dX7_testHolds_260 : decode cX7_testHolds 260 = .ok (.aload_n 0, 1) := by decide +kernel
theorem dX7_testHolds_261 : decode cX7_testHolds 261 = .ok (.getfield 38, 3) := by decide +kernel
theorem dX7_testHolds_264 : decode cX7_testHolds 264 = .ok (.iconst 0, 1) := by decide +kernel
theorem dX7_testHolds_265 : decode cX7_testHolds 265 = .ok (.baload, 1) := by decide +kernel
theorem dX7_testHolds_266 : decode cX7_testHolds 266 = .ok (.ifCond .ne 12, 3) := by decide +kernel
theorem dX7_testHolds_269 : decode cX7_testHolds 269 = .ok (.aload_n 0, 1) := by decide +kernel
theorem dX7_testHolds_270 : decode cX7_testHolds 270 = .ok (.getfield 41, 3) := by decide +kernel
theorem dX7_testHolds_273 : decode cX7_testHolds 273 = .ok (.iconst 0, 1) := by decide +kernel
theorem dX7_testHolds_274 : decode cX7_testHolds 274 = .ok (.baload, 1) := by decide +kernel
theorem dX7_testHolds_275 : decode cX7_testHolds 275 = .ok (.ifCond .eq 7, 3) := by decide +kernel
theorem dX7_testHolds_278 : decode cX7_testHolds 278 = .ok (.iconst 1, 1) := by decide +kernel
theorem dX7_testHolds_279 : decode cX7_testHolds 279 = .ok (.goto 4, 3) := by decide +kernel
theorem dX7_testHolds_282 : decode cX7_testHolds 282 = .ok (.iconst 0, 1) := by decide +kernel
theorem dX7_testHolds_283 : decode cX7_testHolds 283 = .ok (.ireturn, 1) := by decide +kernel
theorem dX7_testHolds_284 : decode cX7_testHolds 284 = .ok (.iload 8, 2) := by decide +kernel
theorem dX7_testHolds_286 : decode cX7_testHolds 286 = .ok (.bipush 124, 2) := by decide +kernel
theorem dX7_testHolds_288 : decode cX7_testHolds 288 = .ok (.if_icmp .ne 43, 3) := by decide +kernel
theorem dX7_testHolds_291 : decode cX7_testHolds 291 = .ok (.aload_n 0, 1) := by decide +kernel
theorem dX7_testHolds_292 : decode cX7_testHolds 292 = .ok (.getfield 38, 3) := by decide +kernel
theorem dX7_testHolds_295 : decode cX7_testHolds 295 = .ok (.iload 5, 2) := by decide +kernel
theorem dX7_testHolds_297 : decode cX7_testHolds 297 = .ok (.aload_n 0, 1) := by decide +kernel
theorem dX7_testHolds_298 : decode cX7_testHolds 298 = .ok (.getfield 38, 3) := by decide +kernel
theorem dX7_testHolds_301 : decode cX7_testHolds 301 = .ok (.iload 5, 2) := by decide +kernel
theorem dX7_testHolds_303 : decode cX7_testHolds 303 = .ok (.baload, 1) := by decide +kernel
theorem dX7_testHolds_304 : decode cX7_testHolds 304 = .ok (.ifCond .ne 13, 3) := by decide +kernel
theorem dX7_testHolds_307 : decode cX7_testHolds 307 = .ok (.aload_n 0, 1) := by decide +kernel
theorem dX7_testHolds_308 : decode cX7_testHolds 308 = .ok (.getfield 41, 3) := by decide +kernel
theorem dX7_testHolds_311 : decode cX7_testHolds 311 = .ok (.iload 5, 2) := by decide +kernel
theorem dX7_testHolds_313 : decode cX7_testHolds 313 = .ok (.baload, 1) := by decide +kernel
theorem dX7_testHolds_314 : decode cX7_testHolds 314 = .ok (.ifCond .eq 7, 3) := by decide +kernel
theorem dX7_testHolds_317 : decode cX7_testHolds 317 = .ok (.iconst 1, 1) := by decide +kernel
theorem dX7_testHolds_318 : decode cX7_testHolds 318 = .ok (.goto 4, 3) := by decide +kernel
theorem dX7_testHolds_321 : decode cX7_testHolds 321 = .ok (.iconst 0, 1) := by decide +kernel
theorem dX7_testHolds_322 : decode cX7_testHolds 322 = .ok (.bastore, 1) := by decide +kernel
theorem dX7_testHolds_323 : decode cX7_testHolds 323 = .ok (.aload_n 0, 1) := by decide +kernel
theorem dX7_testHolds_324 : decode cX7_testHolds 324 = .ok (.getfield 41, 3) := by decide +kernel
theorem dX7_testHolds_327 : decode cX7_testHolds 327 = .ok (.iload 5, 2) := by decide +kernel
theorem dX7_testHolds_329 : decode cX7_testHolds 329 = .ok (.iconst 1, 1) := by decide +kernel
theorem dX7_testHolds_330 : decode cX7_testHolds 330 = .ok (.bastore, 1) := by decide +kernel
theorem dX7_testHolds_331 : decode cX7_testHolds 331 = .ok (.goto (-314), 3) := by decide +kernel
theorem dX7_clause_0 : decode cX7_clause 0 = .ok (.aload_n 0, 1) := by decide +kernel
theorem dX7_clause_1 : decode cX7_clause 1 = .ok (.sipush 640, 3) := by decide +kernel
theorem dX7_clause_4 : decode cX7_clause 4 = .ok (.iload_n 1, 1) := by decide +kernel
theorem dX7_clause_5 : decode cX7_clause 5 = .ok (.imul, 1) := by decide +kernel
theorem dX7_clause_6 : decode cX7_clause 6 = .ok (.bipush 40, 2) := by decide +kernel
theorem dX7_clause_8 : decode cX7_clause 8 = .ok (.iadd, 1) := by decide +kernel
theorem dX7_clause_9 : decode cX7_clause 9 = .ok (.bipush 100, 2) := by decide +kernel
theorem dX7_clause_11 : decode cX7_clause 11 = .ok (.iload_n 2, 1) := by decide +kernel
theorem dX7_clause_12 : decode cX7_clause 12 = .ok (.imul, 1) := by decide +kernel
theorem dX7_clause_13 : decode cX7_clause 13 = .ok (.iadd, 1) := by decide +kernel
theorem dX7_clause_14 : decode cX7_clause 14 = .ok (.putfield 137, 3) := by decide +kernel
theorem dX7_clause_17 : decode cX7_clause 17 = .ok (.aload_n 0, 1) := by decide +kernel
theorem dX7_clause_18 : decode cX7_clause 18 = .ok (.aload_n 0, 1) := by decide +kernel
theorem dX7_clause_19 : decode cX7_clause 19 = .ok (.getfield 137, 3) := by decide +kernel
theorem dX7_clause_22 : decode cX7_clause 22 = .ok (.aload_n 0, 1) := by decide +kernel
theorem dX7_clause_23 : decode cX7_clause 23 = .ok (.getfield 7, 3) := by decide +kernel
theorem dX7_clause_26 : decode cX7_clause 26 = .ok (.sipush 640, 3) := by decide +kernel
theorem dX7_clause_29 : decode cX7_clause 29 = .ok (.iload_n 1, 1) := by decide +kernel
theorem dX7_clause_30 : decode cX7_clause 30 = .ok (.imul, 1) := by decide +kernel
theorem dX7_clause_31 : decode cX7_clause 31 = .ok (.bipush 34, 2) := by decide +kernel
theorem dX7_clause_33 : decode cX7_clause 33 = .ok (.iadd, 1) := by decide +kernel
theorem dX7_clause_34 : decode cX7_clause 34 = .ok (.iload_n 2, 1) := by decide +kernel
theorem dX7_clause_35 : decode cX7_clause 35 = .ok (.iadd, 1) := by decide +kernel
theorem dX7_clause_36 : decode cX7_clause 36 = .ok (.iaload, 1) := by decide +kernel
theorem dX7_clause_37 : decode cX7_clause 37 = .ok (.iadd, 1) := by decide +kernel
theorem dX7_clause_38 : decode cX7_clause 38 = .ok (.putfield 140, 3) := by decide +kernel
theorem dX7_clause_41 : decode cX7_clause 41 = .ok (.aload_n 0, 1) := by decide +kernel
theorem dX7_clause_42 : decode cX7_clause 42 = .ok (.iload 6, 2) := by decide +kernel
theorem dX7_clause_44 : decode cX7_clause 44 = .ok (.putfield 156, 3) := by decide +kernel
theorem dX7_clause_47 : decode cX7_clause 47 = .ok (.aload_n 0, 1) := by decide +kernel
theorem dX7_clause_48 : decode cX7_clause 48 = .ok (.iconst 0, 1) := by decide +kernel
theorem dX7_clause_49 : decode cX7_clause 49 = .ok (.putfield 159, 3) := by decide +kernel
theorem dX7_clause_52 : decode cX7_clause 52 = .ok (.iconst 0, 1) := by decide +kernel
theorem dX7_clause_53 : decode cX7_clause 53 = .ok (.istore 7, 2) := by decide +kernel
theorem dX7_clause_55 : decode cX7_clause 55 = .ok (.iload 7, 2) := by decide +kernel
theorem dX7_clause_57 : decode cX7_clause 57 = .ok (.aload_n 0, 1) := by decide +kernel
theorem dX7_clause_58 : decode cX7_clause 58 = .ok (.getfield 7, 3) := by decide +kernel
theorem dX7_clause_61 : decode cX7_clause 61 = .ok (.sipush 640, 3) := by decide +kernel
theorem dX7_clause_64 : decode cX7_clause 64 = .ok (.iload_n 1, 1) := by decide +kernel
theorem dX7_clause_65 : decode cX7_clause 65 = .ok (.imul, 1) := by decide +kernel
theorem dX7_clause_66 : decode cX7_clause 66 = .ok (.bipush 37, 2) := by decide +kernel
theorem dX7_clause_68 : decode cX7_clause 68 = .ok (.iadd, 1) := by decide +kernel
theorem dX7_clause_69 : decode cX7_clause 69 = .ok (.iload_n 2, 1) := by decide +kernel
theorem dX7_clause_70 : decode cX7_clause 70 = .ok (.iadd, 1) := by decide +kernel
theorem dX7_clause_71 : decode cX7_clause 71 = .ok (.iaload, 1) := by decide +kernel
theorem dX7_clause_72 : decode cX7_clause 72 = .ok (.if_icmp .ge 130, 3) := by decide +kernel
theorem dX7_clause_75 : decode cX7_clause 75 = .ok (.aload_n 0, 1) := by decide +kernel
theorem dX7_clause_76 : decode cX7_clause 76 = .ok (.iload_n 3, 1) := by decide +kernel
theorem dX7_clause_77 : decode cX7_clause 77 = .ok (.iload 4, 2) := by decide +kernel
theorem dX7_clause_79 : decode cX7_clause 79 = .ok (.iload 5, 2) := by decide +kernel
theorem dX7_clause_81 : decode cX7_clause 81 = .ok (.iload 6, 2) := by decide +kernel
theorem dX7_clause_83 : decode cX7_clause 83 = .ok (.invokevirtual 163, 3) := by decide +kernel
theorem dX7_clause_86 : decode cX7_clause 86 = .ok (.istore 8, 2) := by decide +kernel
theorem dX7_clause_88 : decode cX7_clause 88 = .ok (.aload_n 0, 1) := by decide +kernel
theorem dX7_clause_89 : decode cX7_clause 89 = .ok (.invokevirtual 146, 3) := by decide +kernel
theorem dX7_clause_92 : decode cX7_clause 92 = .ok (.istore 9, 2) := by decide +kernel
theorem dX7_clause_94 : decode cX7_clause 94 = .ok (.aload_n 0, 1) := by decide +kernel
theorem dX7_clause_95 : decode cX7_clause 95 = .ok (.invokevirtual 146, 3) := by decide +kernel
theorem dX7_clause_98 : decode cX7_clause 98 = .ok (.bipush 48, 2) := by decide +kernel
theorem dX7_clause_100 : decode cX7_clause 100 = .ok (.isub, 1) := by decide +kernel
theorem dX7_clause_101 : decode cX7_clause 101 = .ok (.istore 10, 2) := by decide +kernel
theorem dX7_clause_103 : decode cX7_clause 103 = .ok (.aload_n 0, 1) := by decide +kernel
theorem dX7_clause_104 : decode cX7_clause 104 = .ok (.invokevirtual 143, 3) := by decide +kernel
theorem dX7_clause_107 : decode cX7_clause 107 = .ok (.bipush 99, 2) := by decide +kernel
theorem dX7_clause_109 : decode cX7_clause 109 = .ok (.if_icmp .ne 7, 3) := by decide +kernel
theorem dX7_clause_112 : decode cX7_clause 112 = .ok (.iconst 1, 1) := by decide +kernel
theorem dX7_clause_113 : decode cX7_clause 113 = .ok (.goto 4, 3) := by decide +kernel
theorem dX7_clause_116 : decode cX7_clause 116 = .ok (.iconst 0, 1) := by decide +kernel
theorem dX7_clause_117 : decode cX7_clause 117 = .ok (.istore 11, 2) := by decide +kernel
theorem dX7_clause_119 : decode cX7_clause 119 = .ok (.aload_n 0, 1) := by decide +kernel
theorem dX7_clause_120 : decode cX7_clause 120 = .ok (.iload 11, 2) := by decide +kernel
theorem dX7_clause_122 : decode cX7_clause 122 = .ok (.ifCond .eq 12, 3) := by decide +kernel
theorem dX7_clause_125 : decode cX7_clause 125 = .ok (.aload_n 0, 1) := by decide +kernel
theorem dX7_clause_126 : decode cX7_clause 126 = .ok (.getfield 137, 3) := by decide +kernel
theorem dX7_clause_129 : decode cX7_clause 129 = .ok (.iconst 1, 1) := by decide +kernel
theorem dX7_clause_130 : decode cX7_clause 130 = .ok (.iadd, 1) := by decide +kernel
theorem dX7_clause_131 : decode cX7_clause 131 = .ok (.goto 7, 3) := by decide +kernel
theorem dX7_clause_134 : decode cX7_clause 134 = .ok (.aload_n 0, 1) := by decide +kernel
theorem dX7_clause_135 : decode cX7_clause 135 = .ok (.getfield 137, 3) := by decide +kernel
theorem dX7_clause_138 : decode cX7_clause 138 = .ok (.putfield 137, 3) := by decide +kernel
theorem dX7_clause_141 : decode cX7_clause 141 = .ok (.iload 8, 2) := by decide +kernel
theorem dX7_clause_143 : decode cX7_clause 143 = .ok (.ifCond .eq 48, 3) := by decide +kernel
theorem dX7_clause_146 : decode cX7_clause 146 = .ok (.aload_n 0, 1) := by decide +kernel
theorem dX7_clause_147 : decode cX7_clause 147 = .ok (.iload 9, 2) := by decide +kernel
theorem dX7_clause_149 : decode cX7_clause 149 = .ok (.bipush 43, 2) := by decide +kernel
theorem dX7_clause_151 : decode cX7_clause 151 = .ok (.if_icmp .ne 11, 3) := by decide +kernel
theorem dX7_clause_154 : decode cX7_clause 154 = .ok (.iload 6, 2) := by decide +kernel
theorem dX7_clause_156 : decode cX7_clause 156 = .ok (.iload 10, 2) := by decide +kernel
theorem dX7_clause_158 : decode cX7_clause 158 = .ok (.iadd, 1) := by decide +kernel
theorem dX7_clause_159 : decode cX7_clause 159 = .ok (.goto 20, 3) := by decide +kernel
theorem dX7_clause_162 : decode cX7_clause 162 = .ok (.iload 9, 2) := by decide +kernel
theorem dX7_clause_164 : decode cX7_clause 164 = .ok (.bipush 45, 2) := by decide +kernel
theorem dX7_clause_166 : decode cX7_clause 166 = .ok (.if_icmp .ne 11, 3) := by decide +kernel
theorem dX7_clause_169 : decode cX7_clause 169 = .ok (.iload 6, 2) := by decide +kernel
theorem dX7_clause_171 : decode cX7_clause 171 = .ok (.iload 10, 2) := by decide +kernel
theorem dX7_clause_173 : decode cX7_clause 173 = .ok (.isub, 1) := by decide +kernel
theorem dX7_clause_174 : decode cX7_clause 174 = .ok (.goto 5, 3) := by decide +kernel
theorem dX7_clause_177 : decode cX7_clause 177 = .ok (.iload 10, 2) := by decide +kernel
theorem dX7_clause_179 : decode cX7_clause 179 = .ok (.putfield 156, 3) := by decide +kernel
theorem dX7_clause_182 : decode cX7_clause 182 = .ok (.aload_n 0, 1) := by decide +kernel
theorem dX7_clause_183 : decode cX7_clause 183 = .ok (.iload 11, 2) := by decide +kernel
theorem dX7_clause_185 : decode cX7_clause 185 = .ok (.putfield 159, 3) := by decide +kernel
theorem dX7_clause_188 : decode cX7_clause 188 = .ok (.iload 7, 2) := by decide +kernel
theorem dX7_clause_190 : decode cX7_clause 190 = .ok (.ireturn, 1) := by decide +kernel
theorem dX7_clause_191 : decode cX7_clause 191 = .ok (.aload_n 0, 1) := by decide +kernel
theorem dX7_clause_192 : decode cX7_clause 192 = .ok (.invokevirtual 146, 3) := by decide +kernel
theorem dX7_clause_195 : decode cX7_clause 195 = .ok (.pop, 1) := by decide +kernel
theorem dX7_clause_196 : decode cX7_clause 196 = .ok (.iinc 7 1, 3) := by decide +kernel
theorem dX7_clause_199 : decode cX7_clause 199 = .ok (.goto (-144), 3) := by decide +kernel
theorem dX7_clause_202 : decode cX7_clause 202 = .ok (.bipush (-4), 2) := by decide +kernel
theorem dX7_clause_204 : decode cX7_clause 204 = .ok (.ireturn, 1) := by decide +kernel
theorem dX7_holds_0 : decode cX7_holds 0 = .ok (.aload_n 0, 1) := by decide +kernel
theorem dX7_holds_1 : decode cX7_holds 1 = .ok (.iload_n 1, 1) := by decide +kernel
theorem dX7_holds_2 : decode cX7_holds 2 = .ok (.invokevirtual 84, 3) := by decide +kernel
theorem dX7_holds_5 : decode cX7_holds 5 = .ok (.ifCond .eq 43, 3) := by decide +kernel
theorem dX7_holds_8 : decode cX7_holds 8 = .ok (.aload_n 0, 1) := by decide +kernel
theorem dX7_holds_9 : decode cX7_holds 9 = .ok (.iconst 0, 1) := by decide +kernel
theorem dX7_holds_10 : decode cX7_holds 10 = .ok (.aload_n 0, 1) := by decide +kernel
theorem dX7_holds_11 : decode cX7_holds 11 = .ok (.iconst 0, 1) := by decide +kernel
theorem dX7_holds_12 : decode cX7_holds 12 = .ok (.iload_n 1, 1) := by decide +kernel
theorem dX7_holds_13 : decode cX7_holds 13 = .ok (.iconst 3, 1) := by decide +kernel
theorem dX7_holds_14 : decode cX7_holds 14 = .ok (.invokevirtual 57, 3) := by decide +kernel
theorem dX7_holds_17 : decode cX7_holds 17 = .ok (.aload_n 0, 1) := by decide +kernel
theorem dX7_holds_18 : decode cX7_holds 18 = .ok (.iconst 0, 1) := by decide +kernel
theorem dX7_holds_19 : decode cX7_holds 19 = .ok (.iload_n 1, 1) := by decide +kernel
theorem dX7_holds_20 : decode cX7_holds 20 = .ok (.invokevirtual 92, 3) := by decide +kernel
theorem dX7_holds_23 : decode cX7_holds 23 = .ok (.aload_n 0, 1) := by decide +kernel
theorem dX7_holds_24 : decode cX7_holds 24 = .ok (.iconst 0, 1) := by decide +kernel
theorem dX7_holds_25 : decode cX7_holds 25 = .ok (.iload_n 1, 1) := by decide +kernel
theorem dX7_holds_26 : decode cX7_holds 26 = .ok (.invokevirtual 166, 3) := by decide +kernel
theorem dX7_holds_29 : decode cX7_holds 29 = .ok (.aload_n 0, 1) := by decide +kernel
theorem dX7_holds_30 : decode cX7_holds 30 = .ok (.iconst 0, 1) := by decide +kernel
