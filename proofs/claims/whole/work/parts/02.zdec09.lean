theorem dX7_isSame_97 : decode cX7_isSame 97 = .ok (.goto 4, 3) := by decide +kernel
theorem dX7_isSame_100 : decode cX7_isSame 100 = .ok (.iload_n 3, 1) := by decide +kernel
theorem dX7_isSame_101 : decode cX7_isSame 101 = .ok (.istore 4, 2) := by decide +kernel
theorem dX7_isSame_103 : decode cX7_isSame 103 = .ok (.aload_n 0, 1) := by decide +kernel
theorem dX7_isSame_104 : decode cX7_isSame 104 = .ok (.iconst 1, 1) := by decide +kernel
theorem dX7_isSame_105 : decode cX7_isSame 105 = .ok (.iload_n 1, 1) := by decide +kernel
theorem dX7_isSame_106 : decode cX7_isSame 106 = .ok (.bipush 8, 2) := by decide +kernel
theorem dX7_isSame_108 : decode cX7_isSame 108 = .ok (.invokevirtual 57, 3) := by decide +kernel
theorem dX7_isSame_111 : decode cX7_isSame 111 = .ok (.iload_n 3, 1) := by decide +kernel
theorem dX7_isSame_112 : decode cX7_isSame 112 = .ok (.if_icmp .ge 14, 3) := by decide +kernel
theorem dX7_isSame_115 : decode cX7_isSame 115 = .ok (.aload_n 0, 1) := by decide +kernel
theorem dX7_isSame_116 : decode cX7_isSame 116 = .ok (.iconst 1, 1) := by decide +kernel
theorem dX7_isSame_117 : decode cX7_isSame 117 = .ok (.iload_n 1, 1) := by decide +kernel
theorem dX7_isSame_118 : decode cX7_isSame 118 = .ok (.bipush 8, 2) := by decide +kernel
theorem dX7_isSame_120 : decode cX7_isSame 120 = .ok (.invokevirtual 57, 3) := by decide +kernel
theorem dX7_isSame_123 : decode cX7_isSame 123 = .ok (.goto 4, 3) := by decide +kernel
theorem dX7_isSame_126 : decode cX7_isSame 126 = .ok (.iload_n 3, 1) := by decide +kernel
theorem dX7_isSame_127 : decode cX7_isSame 127 = .ok (.istore 5, 2) := by decide +kernel
theorem dX7_isSame_129 : decode cX7_isSame 129 = .ok (.iload_n 2, 1) := by decide +kernel
theorem dX7_isSame_130 : decode cX7_isSame 130 = .ok (.ifCond .eq 14, 3) := by decide +kernel
theorem dX7_isSame_133 : decode cX7_isSame 133 = .ok (.iload 4, 2) := by decide +kernel
theorem dX7_isSame_135 : decode cX7_isSame 135 = .ok (.iload 5, 2) := by decide +kernel
theorem dX7_isSame_137 : decode cX7_isSame 137 = .ok (.if_icmp .ne 7, 3) := by decide +kernel
theorem dX7_isSame_140 : decode cX7_isSame 140 = .ok (.iconst 1, 1) := by decide +kernel
theorem dX7_isSame_141 : decode cX7_isSame 141 = .ok (.goto 4, 3) := by decide +kernel
theorem dX7_isSame_144 : decode cX7_isSame 144 = .ok (.iconst 0, 1) := by decide +kernel
theorem dX7_isSame_145 : decode cX7_isSame 145 = .ok (.istore_n 2, 1) := by decide +kernel
theorem dX7_isSame_146 : decode cX7_isSame 146 = .ok (.iconst 0, 1) := by decide +kernel
theorem dX7_isSame_147 : decode cX7_isSame 147 = .ok (.istore 6, 2) := by decide +kernel
theorem dX7_isSame_149 : decode cX7_isSame 149 = .ok (.iload 6, 2) := by decide +kernel
theorem dX7_isSame_151 : decode cX7_isSame 151 = .ok (.iconst 3, 1) := by decide +kernel
theorem dX7_isSame_152 : decode cX7_isSame 152 = .ok (.iload 4, 2) := by decide +kernel
theorem dX7_isSame_154 : decode cX7_isSame 154 = .ok (.imul, 1) := by decide +kernel
theorem dX7_isSame_155 : decode cX7_isSame 155 = .ok (.if_icmp .ge 44, 3) := by decide +kernel
theorem dX7_isSame_158 : decode cX7_isSame 158 = .ok (.iload_n 2, 1) := by decide +kernel
theorem dX7_isSame_159 : decode cX7_isSame 159 = .ok (.ifCond .eq 32, 3) := by decide +kernel
theorem dX7_isSame_162 : decode cX7_isSame 162 = .ok (.aload_n 0, 1) := by decide +kernel
theorem dX7_isSame_163 : decode cX7_isSame 163 = .ok (.iconst 0, 1) := by decide +kernel
theorem dX7_isSame_164 : decode cX7_isSame 164 = .ok (.iload_n 1, 1) := by decide +kernel
theorem dX7_isSame_165 : decode cX7_isSame 165 = .ok (.bipush 9, 2) := by decide +kernel
theorem dX7_isSame_167 : decode cX7_isSame 167 = .ok (.iload 6, 2) := by decide +kernel
theorem dX7_isSame_169 : decode cX7_isSame 169 = .ok (.iadd, 1) := by decide +kernel
theorem dX7_isSame_170 : decode cX7_isSame 170 = .ok (.invokevirtual 57, 3) := by decide +kernel
theorem dX7_isSame_173 : decode cX7_isSame 173 = .ok (.aload_n 0, 1) := by decide +kernel
theorem dX7_isSame_174 : decode cX7_isSame 174 = .ok (.iconst 1, 1) := by decide +kernel
theorem dX7_isSame_175 : decode cX7_isSame 175 = .ok (.iload_n 1, 1) := by decide +kernel
theorem dX7_isSame_176 : decode cX7_isSame 176 = .ok (.bipush 9, 2) := by decide +kernel
theorem dX7_isSame_178 : decode cX7_isSame 178 = .ok (.iload 6, 2) := by decide +kernel
theorem dX7_isSame_180 : decode cX7_isSame 180 = .ok (.iadd, 1) := by decide +kernel
theorem dX7_isSame_181 : decode cX7_isSame 181 = .ok (.invokevirtual 57, 3) := by decide +kernel
theorem dX7_isSame_184 : decode cX7_isSame 184 = .ok (.if_icmp .ne 7, 3) := by decide +kernel
theorem dX7_isSame_187 : decode cX7_isSame 187 = .ok (.iconst 1, 1) := by decide +kernel
theorem dX7_isSame_188 : decode cX7_isSame 188 = .ok (.goto 4, 3) := by decide +kernel
theorem dX7_isSame_191 : decode cX7_isSame 191 = .ok (.iconst 0, 1) := by decide +kernel
theorem dX7_isSame_192 : decode cX7_isSame 192 = .ok (.istore_n 2, 1) := by decide +kernel
theorem dX7_isSame_193 : decode cX7_isSame 193 = .ok (.iinc 6 1, 3) := by decide +kernel
theorem dX7_isSame_196 : decode cX7_isSame 196 = .ok (.goto (-47), 3) := by decide +kernel
theorem dX7_isSame_199 : decode cX7_isSame 199 = .ok (.iload_n 2, 1) := by decide +kernel
theorem dX7_isSame_200 : decode cX7_isSame 200 = .ok (.ifCond .ne 5, 3) := by decide +kernel
theorem dX7_isSame_203 : decode cX7_isSame 203 = .ok (.iconst 0, 1) := by decide +kernel
theorem dX7_isSame_204 : decode cX7_isSame 204 = .ok (.ireturn, 1) := by decide +kernel
theorem dX7_isSame_205 : decode cX7_isSame 205 = .ok (.iinc 1 1, 3) := by decide +kernel
theorem dX7_isSame_208 : decode cX7_isSame 208 = .ok (.goto (-206), 3) := by decide +kernel
theorem dX7_isSame_211 : decode cX7_isSame 211 = .ok (.iconst 1, 1) := by decide +kernel
theorem dX7_isSame_212 : decode cX7_isSame 212 = .ok (.ireturn, 1) := by decide +kernel
theorem dX7_round_0 : decode cX7_round 0 = .ok (.iload_n 1, 1) := by decide +kernel
theorem dX7_round_1 : decode cX7_round 1 = .ok (.i2l, 1) := by decide +kernel
theorem dX7_round_2 : decode cX7_round 2 = .ok (.lconst 1, 1) := by decide +kernel
theorem dX7_round_3 : decode cX7_round 3 = .ok (.ldc2_w 232, 3) := by decide +kernel
theorem dX7_round_6 : decode cX7_round 6 = .ok (.invokestatic 53, 3) := by decide +kernel
theorem dX7_round_9 : decode cX7_round 9 = .ok (.ifCond .ne 5, 3) := by decide +kernel
theorem dX7_round_12 : decode cX7_round 12 = .ok (.iconst (-1), 1) := by decide +kernel
theorem dX7_round_13 : decode cX7_round 13 = .ok (.ireturn, 1) := by decide +kernel
theorem dX7_round_14 : decode cX7_round 14 = .ok (.aload_n 0, 1) := by decide +kernel
theorem dX7_round_15 : decode cX7_round 15 = .ok (.iconst 1, 1) := by decide +kernel
theorem dX7_round_16 : decode cX7_round 16 = .ok (.iconst 0, 1) := by decide +kernel
theorem dX7_round_17 : decode cX7_round 17 = .ok (.invokevirtual 219, 3) := by decide +kernel
theorem dX7_round_20 : decode cX7_round 20 = .ok (.iconst 1, 1) := by decide +kernel
theorem dX7_round_21 : decode cX7_round 21 = .ok (.istore_n 2, 1) := by decide +kernel
theorem dX7_round_22 : decode cX7_round 22 = .ok (.iload_n 2, 1) := by decide +kernel
theorem dX7_round_23 : decode cX7_round 23 = .ok (.iload_n 1, 1) := by decide +kernel
theorem dX7_round_24 : decode cX7_round 24 = .ok (.if_icmp .gt 23, 3) := by decide +kernel
theorem dX7_round_27 : decode cX7_round 27 = .ok (.aload_n 0, 1) := by decide +kernel
theorem dX7_round_28 : decode cX7_round 28 = .ok (.iconst 1, 1) := by decide +kernel
theorem dX7_round_29 : decode cX7_round 29 = .ok (.invokevirtual 200, 3) := by decide +kernel
theorem dX7_round_32 : decode cX7_round 32 = .ok (.aload_n 0, 1) := by decide +kernel
theorem dX7_round_33 : decode cX7_round 33 = .ok (.invokevirtual 234, 3) := by decide +kernel
theorem dX7_round_36 : decode cX7_round 36 = .ok (.ifCond .eq 5, 3) := by decide +kernel
theorem dX7_round_39 : decode cX7_round 39 = .ok (.iload_n 2, 1) := by decide +kernel
theorem dX7_round_40 : decode cX7_round 40 = .ok (.ireturn, 1) := by decide +kernel
theorem dX7_round_41 : decode cX7_round 41 = .ok (.iinc 2 1, 3) := by decide +kernel
theorem dX7_round_44 : decode cX7_round 44 = .ok (.goto (-22), 3) := by decide +kernel
theorem dX7_round_47 : decode cX7_round 47 = .ok (.bipush (-4), 2) := by decide +kernel
theorem dX7_round_49 : decode cX7_round 49 = .ok (.ireturn, 1) := by decide +kernel
theorem dX7_evens_0 : decode cX7_evens 0 = .ok (.iload_n 1, 1) := by decide +kernel
theorem dX7_evens_1 : decode cX7_evens 1 = .ok (.i2l, 1) := by decide +kernel
theorem dX7_evens_2 : decode cX7_evens 2 = .ok (.lconst 0, 1) := by decide +kernel
theorem dX7_evens_3 : decode cX7_evens 3 = .ok (.ldc2_w 232, 3) := by decide +kernel
theorem dX7_evens_6 : decode cX7_evens 6 = .ok (.invokestatic 53, 3) := by decide +kernel
theorem dX7_evens_9 : decode cX7_evens 9 = .ok (.ifCond .ne 5, 3) := by decide +kernel
theorem dX7_evens_12 : decode cX7_evens 12 = .ok (.iconst (-1), 1) := by decide +kernel
theorem dX7_evens_13 : decode cX7_evens 13 = .ok (.ireturn, 1) := by decide +kernel
theorem dX7_evens_14 : decode cX7_evens 14 = .ok (.aload_n 0, 1) := by decide +kernel
theorem dX7_evens_15 : decode cX7_evens 15 = .ok (.iconst 1, 1) := by decide +kernel
theorem dX7_evens_16 : decode cX7_evens 16 = .ok (.iconst 0, 1) := by decide +kernel
theorem dX7_evens_17 : decode cX7_evens 17 = .ok (.invokevirtual 219, 3) := by decide +kernel
theorem dX7_evens_20 : decode cX7_evens 20 = .ok (.iconst 0, 1) := by decide +kernel
theorem dX7_evens_21 : decode cX7_evens 21 = .ok (.istore_n 2, 1) := by decide +kernel
theorem dX7_evens_22 : decode cX7_evens 22 = .ok (.iload_n 2, 1) := by decide +kernel
theorem dX7_evens_23 : decode cX7_evens 23 = .ok (.iload_n 1, 1) := by decide +kernel
theorem dX7_evens_24 : decode cX7_evens 24 = .ok (.if_icmp .gt 24, 3) := by decide +kernel
theorem dX7_evens_27 : decode cX7_evens 27 = .ok (.aload_n 0, 1) := by decide +kernel
theorem dX7_evens_28 : decode cX7_evens 28 = .ok (.iconst 1, 1) := by decide +kernel
theorem dX7_evens_29 : decode cX7_evens 29 = .ok (.invokevirtual 194, 3) := by decide +kernel
theorem dX7_evens_32 : decode cX7_evens 32 = .ok (.ifCond .eq 5, 3) := by decide +kernel
theorem dX7_evens_35 : decode cX7_evens 35 = .ok (.iload_n 2, 1) := by decide +kernel
theorem dX7_evens_36 : decode cX7_evens 36 = .ok (.ireturn, 1) := by decide +kernel
theorem dX7_evens_37 : decode cX7_evens 37 = .ok (.aload_n 0, 1) := by decide +kernel
theorem dX7_evens_38 : decode cX7_evens 38 = .ok (.iconst 1, 1) := by decide +kernel
theorem dX7_evens_39 : decode cX7_evens 39 = .ok (.invokevirtual 200, 3) := by decide +kernel
theorem dX7_evens_42 : decode cX7_evens 42 = .ok (.iinc 2 1, 3) := by decide +kernel
theorem dX7_evens_45 : decode cX7_evens 45 = .ok (.goto (-23), 3) := by decide +kernel
theorem dX7_evens_48 : decode cX7_evens 48 = .ok (.bipush (-4), 2) := by decide +kernel
theorem dX7_evens_50 : decode cX7_evens 50 = .ok (.ireturn, 1) := by decide +kernel
theorem dX7_image_0 : decode cX7_image 0 = .ok (.iload_n 1, 1) := by decide +kernel
theorem dX7_image_1 : decode cX7_image 1 = .ok (.i2l, 1) := by decide +kernel
theorem dX7_image_2 : decode cX7_image 2 = .ok (.lconst 0, 1) := by decide +kernel
theorem dX7_image_3 : decode cX7_image 3 = .ok (.lconst 1, 1) := by decide +kernel
theorem dX7_image_4 : decode cX7_image 4 = .ok (.invokestatic 53, 3) := by decide +kernel
theorem dX7_image_7 : decode cX7_image 7 = .ok (.ifCond .ne 5, 3) := by decide +kernel
theorem dX7_image_10 : decode cX7_image 10 = .ok (.iconst (-1), 1) := by decide +kernel
theorem dX7_image_11 : decode cX7_image 11 = .ok (.ireturn, 1) := by decide +kernel
theorem dX7_image_12 : decode cX7_image 12 = .ok (.aload_n 0, 1) := by decide +kernel
theorem dX7_image_13 : decode cX7_image 13 = .ok (.iconst 3, 1) := by decide +kernel
theorem dX7_image_14 : decode cX7_image 14 = .ok (.iload_n 1, 1) := by decide +kernel
theorem dX7_image_15 : decode cX7_image 15 = .ok (.iadd, 1) := by decide +kernel
theorem dX7_image_16 : decode cX7_image 16 = .ok (.iconst 0, 1) := by decide +kernel
theorem dX7_image_17 : decode cX7_image 17 = .ok (.invokevirtual 219, 3) := by decide +kernel
theorem dX7_image_20 : decode cX7_image 20 = .ok (.aload_n 0, 1) := by decide +kernel
theorem dX7_image_21 : decode cX7_image 21 = .ok (.getfield 13, 3) := by decide +kernel
theorem dX7_image_24 : decode cX7_image 24 = .ok (.iload_n 1, 1) := by decide +kernel
theorem dX7_image_25 : decode cX7_image 25 = .ok (.iconst 1, 1) := by decide +kernel
theorem dX7_image_26 : decode cX7_image 26 = .ok (.bastore, 1) := by decide +kernel
theorem dX7_image_27 : decode cX7_image 27 = .ok (.iconst 1, 1) := by decide +kernel
theorem dX7_image_28 : decode cX7_image 28 = .ok (.ireturn, 1) := by decide +kernel
theorem dX7_restore_0 : decode cX7_restore 0 = .ok (.iload_n 1, 1) := by decide +kernel
theorem dX7_restore_1 : decode cX7_restore 1 = .ok (.i2l, 1) := by decide +kernel
theorem dX7_restore_2 : decode cX7_restore 2 = .ok (.lconst 0, 1) := by decide +kernel
theorem dX7_restore_3 : decode cX7_restore 3 = .ok (.lconst 1, 1) := by decide +kernel
theorem dX7_restore_4 : decode cX7_restore 4 = .ok (.invokestatic 53, 3) := by decide +kernel
theorem dX7_restore_7 : decode cX7_restore 7 = .ok (.ifCond .ne 5, 3) := by decide +kernel
theorem dX7_restore_10 : decode cX7_restore 10 = .ok (.iconst (-1), 1) := by decide +kernel
theorem dX7_restore_11 : decode cX7_restore 11 = .ok (.ireturn, 1) := by decide +kernel
theorem dX7_restore_12 : decode cX7_restore 12 = .ok (.aload_n 0, 1) := by decide +kernel
theorem dX7_restore_13 : decode cX7_restore 13 = .ok (.getfield 13, 3) := by decide +kernel
theorem dX7_restore_16 : decode cX7_restore 16 = .ok (.iload_n 1, 1) := by decide +kernel
theorem dX7_restore_17 : decode cX7_restore 17 = .ok (.baload, 1) := by decide +kernel
theorem dX7_restore_18 : decode cX7_restore 18 = .ok (.ifCond .ne 6, 3) := by decide +kernel
theorem dX7_restore_21 : decode cX7_restore 21 = .ok (.bipush (-4), 2) := by decide +kernel
theorem dX7_restore_23 : decode cX7_restore 23 = .ok (.ireturn, 1) := by decide +kernel
theorem dX7_restore_24 : decode cX7_restore 24 = .ok (.aload_n 0, 1) := by decide +kernel
theorem dX7_restore_25 : decode cX7_restore 25 = .ok (.iconst 0, 1) := by decide +kernel
theorem dX7_restore_26 : decode cX7_restore 26 = .ok (.iconst 3, 1) := by decide +kernel
theorem dX7_restore_27 : decode cX7_restore 27 = .ok (.iload_n 1, 1) := by decide +kernel
theorem dX7_restore_28 : decode cX7_restore 28 = .ok (.iadd, 1) := by decide +kernel
theorem dX7_restore_29 : decode cX7_restore 29 = .ok (.invokevirtual 219, 3) := by decide +kernel
theorem dX7_restore_32 : decode cX7_restore 32 = .ok (.iconst 1, 1) := by decide +kernel
theorem dX7_restore_33 : decode cX7_restore 33 = .ok (.ireturn, 1) := by decide +kernel
theorem dX7_isSheet_0 : decode cX7_isSheet 0 = .ok (.iload_n 0, 1) := by decide +kernel
theorem dX7_isSheet_1 : decode cX7_isSheet 1 = .ok (.i2l, 1) := by decide +kernel
theorem dX7_isSheet_2 : decode cX7_isSheet 2 = .ok (.lconst 0, 1) := by decide +kernel
theorem dX7_isSheet_3 : decode cX7_isSheet 3 = .ok (.ldc2_w 90, 3) := by decide +kernel
theorem dX7_isSheet_6 : decode cX7_isSheet 6 = .ok (.invokestatic 53, 3) := by decide +kernel
theorem dX7_isSheet_9 : decode cX7_isSheet 9 = .ok (.ireturn, 1) := by decide +kernel
theorem dX7_row_0 : decode cX7_row 0 = .ok (.aload_n 0, 1) := by decide +kernel
theorem dX7_row_1 : decode cX7_row 1 = .ok (.getfield 23, 3) := by decide +kernel
theorem dX7_row_4 : decode cX7_row 4 = .ok (.iload_n 1, 1) := by decide +kernel
theorem dX7_row_5 : decode cX7_row 5 = .ok (.iaload, 1) := by decide +kernel
theorem dX7_row_6 : decode cX7_row 6 = .ok (.ifCond .ge 6, 3) := by decide +kernel
theorem dX7_row_9 : decode cX7_row 9 = .ok (.bipush (-11), 2) := by decide +kernel
theorem dX7_row_11 : decode cX7_row 11 = .ok (.ireturn, 1) := by decide +kernel
theorem dX7_row_12 : decode cX7_row 12 = .ok (.aload_n 0, 1) := by decide +kernel
theorem dX7_row_13 : decode cX7_row 13 = .ok (.getfield 23, 3) := by decide +kernel
theorem dX7_row_16 : decode cX7_row 16 = .ok (.iload_n 1, 1) := by decide +kernel
theorem dX7_row_17 : decode cX7_row 17 = .ok (.iaload, 1) := by decide +kernel
theorem dX7_row_18 : decode cX7_row 18 = .ok (.iload_n 2, 1) := by decide +kernel
theorem dX7_row_19 : decode cX7_row 19 = .ok (.if_icmp .eq 6, 3) := by decide +kernel
theorem dX7_row_22 : decode cX7_row 22 = .ok (.bipush (-12), 2) := by decide +kernel
theorem dX7_row_24 : decode cX7_row 24 = .ok (.ireturn, 1) := by decide +kernel
theorem dX7_row_25 : decode cX7_row 25 = .ok (.iload_n 3, 1) := by decide +kernel
theorem dX7_row_26 : decode cX7_row 26 = .ok (.ifCond .lt 25, 3) := by decide +kernel
theorem dX7_row_29 : decode cX7_row 29 = .ok (.iload 4, 2) := by decide +kernel
theorem dX7_row_31 : decode cX7_row 31 = .ok (.ifCond .lt 20, 3) := by decide +kernel
theorem dX7_row_34 : decode cX7_row 34 = .ok (.iload_n 3, 1) := by decide +kernel
theorem dX7_row_35 : decode cX7_row 35 = .ok (.i2l, 1) := by decide +kernel
theorem dX7_row_36 : decode cX7_row 36 = .ok (.iload 4, 2) := by decide +kernel
theorem dX7_row_38 : decode cX7_row 38 = .ok (.i2l, 1) := by decide +kernel
theorem dX7_row_39 : decode cX7_row 39 = .ok (.ladd, 1) := by decide +kernel
theorem dX7_row_40 : decode cX7_row 40 = .ok (.aload_n 0, 1) := by decide +kernel
theorem dX7_row_41 : decode cX7_row 41 = .ok (.getfield 26, 3) := by decide +kernel
theorem dX7_row_44 : decode cX7_row 44 = .ok (.iload_n 1, 1) := by decide +kernel
theorem dX7_row_45 : decode cX7_row 45 = .ok (.iaload, 1) := by decide +kernel
theorem dX7_row_46 : decode cX7_row 46 = .ok (.i2l, 1) := by decide +kernel
theorem dX7_row_47 : decode cX7_row 47 = .ok (.lcmp, 1) := by decide +kernel
theorem dX7_row_48 : decode cX7_row 48 = .ok (.ifCond .le 8, 3) := by decide +kernel
theorem dX7_row_51 : decode cX7_row 51 = .ok (.bipush (-13), 2) := by decide +kernel
theorem dX7_row_53 : decode cX7_row 53 = .ok (.goto 4, 3) := by decide +kernel
theorem dX7_row_56 : decode cX7_row 56 = .ok (.iconst 0, 1) := by decide +kernel
theorem dX7_row_57 : decode cX7_row 57 = .ok (.ireturn, 1) := by decide +kernel
theorem dX7_paces_0 : decode cX7_paces 0 = .ok (.iload_n 1, 1) := by decide +kernel
theorem dX7_paces_1 : decode cX7_paces 1 = .ok (.invokestatic 237, 3) := by decide +kernel
theorem dX7_paces_4 : decode cX7_paces 4 = .ok (.ifCond .eq 15, 3) := by decide +kernel
theorem dX7_paces_7 : decode cX7_paces 7 = .ok (.iload_n 2, 1) := by decide +kernel
theorem dX7_paces_8 : decode cX7_paces 8 = .ok (.i2l, 1) := by decide +kernel
theorem dX7_paces_9 : decode cX7_paces 9 = .ok (.lconst 1, 1) := by decide +kernel
theorem dX7_paces_10 : decode cX7_paces 10 = .ok (.ldc2_w 88, 3) := by decide +kernel
theorem dX7_paces_13 : decode cX7_paces 13 = .ok (.invokestatic 53, 3) := by decide +kernel
theorem dX7_paces_16 : decode cX7_paces 16 = .ok (.ifCond .ne 5, 3) := by decide +kernel
theorem dX7_paces_19 : decode cX7_paces 19 = .ok (.iconst (-1), 1) := by decide +kernel
theorem dX7_paces_20 : decode cX7_paces 20 = .ok (.ireturn, 1) := by decide +kernel
theorem dX7_paces_21 : decode cX7_paces 21 = .ok (.aload_n 0, 1) := by decide +kernel
theorem dX7_paces_22 : decode cX7_paces 22 = .ok (.iload_n 1, 1) := by decide +kernel
theorem dX7_paces_23 : decode cX7_paces 23 = .ok (.iload_n 2, 1) := by decide +kernel
theorem dX7_paces_24 : decode cX7_paces 24 = .ok (.iload_n 3, 1) := by decide +kernel
theorem dX7_paces_25 : decode cX7_paces 25 = .ok (.aload_n 0, 1) := by decide +kernel
theorem dX7_paces_26 : decode cX7_paces 26 = .ok (.getfield 7, 3) := by decide +kernel
theorem dX7_paces_29 : decode cX7_paces 29 = .ok (.iconst 2, 1) := by decide +kernel
theorem dX7_paces_30 : decode cX7_paces 30 = .ok (.iaload, 1) := by decide +kernel
theorem dX7_paces_31 : decode cX7_paces 31 = .ok (.invokevirtual 240, 3) := by decide +kernel
theorem dX7_paces_34 : decode cX7_paces 34 = .ok (.istore 4, 2) := by decide +kernel
theorem dX7_paces_36 : decode cX7_paces 36 = .ok (.iload 4, 2) := by decide +kernel
theorem dX7_paces_38 : decode cX7_paces 38 = .ok (.ifCond .ge 6, 3) := by decide +kernel
theorem dX7_paces_41 : decode cX7_paces 41 = .ok (.iload 4, 2) := by decide +kernel
theorem dX7_paces_43 : decode cX7_paces 43 = .ok (.ireturn, 1) := by decide +kernel
theorem dX7_paces_44 : decode cX7_paces 44 = .ok (.iconst 0, 1) := by decide +kernel
theorem dX7_paces_45 : decode cX7_paces 45 = .ok (.istore 5, 2) := by decide +kernel
theorem dX7_paces_47 : decode cX7_paces 47 = .ok (.iload 5, 2) := by decide +kernel
theorem dX7_paces_49 : decode cX7_paces 49 = .ok (.aload_n 0, 1) := by decide +kernel
theorem dX7_paces_50 : decode cX7_paces 50 = .ok (.getfield 7, 3) := by decide +kernel
theorem dX7_paces_53 : decode cX7_paces 53 = .ok (.iconst 2, 1) := by decide +kernel
theorem dX7_paces_54 : decode cX7_paces 54 = .ok (.iaload, 1) := by decide +kernel
theorem dX7_paces_55 : decode cX7_paces 55 = .ok (.if_icmp .ge 37, 3) := by decide +kernel
theorem dX7_paces_58 : decode cX7_paces 58 = .ok (.aload_n 0, 1) := by decide +kernel
theorem dX7_paces_59 : decode cX7_paces 59 = .ok (.getfield 20, 3) := by decide +kernel
theorem dX7_paces_62 : decode cX7_paces 62 = .ok (.bipush 36, 2) := by decide +kernel
theorem dX7_paces_64 : decode cX7_paces 64 = .ok (.iload_n 1, 1) := by decide +kernel
theorem dX7_paces_65 : decode cX7_paces 65 = .ok (.imul, 1) := by decide +kernel
theorem dX7_paces_66 : decode cX7_paces 66 = .ok (.iload_n 3, 1) := by decide +kernel
theorem dX7_paces_67 : decode cX7_paces 67 = .ok (.iadd, 1) := by decide +kernel
theorem dX7_paces_68 : decode cX7_paces 68 = .ok (.iload 5, 2) := by decide +kernel
theorem dX7_paces_70 : decode cX7_paces 70 = .ok (.iadd, 1) := by decide +kernel
theorem dX7_paces_71 : decode cX7_paces 71 = .ok (.iaload, 1) := by decide +kernel
theorem dX7_paces_72 : decode cX7_paces 72 = .ok (.i2l, 1) := by decide +kernel
theorem dX7_paces_73 : decode cX7_paces 73 = .ok (.lconst 0, 1) := by decide +kernel
theorem dX7_paces_74 : decode cX7_paces 74 = .ok (.ldc2_w 72, 3) := by decide +kernel
theorem dX7_paces_77 : decode cX7_paces 77 = .ok (.invokestatic 53, 3) := by decide +kernel
theorem dX7_paces_80 : decode cX7_paces 80 = .ok (.ifCond .ne 6, 3) := by decide +kernel
theorem dX7_paces_83 : decode cX7_paces 83 = .ok (.bipush (-2), 2) := by decide +kernel
theorem dX7_paces_85 : decode cX7_paces 85 = .ok (.ireturn, 1) := by decide +kernel
theorem dX7_paces_86 : decode cX7_paces 86 = .ok (.iinc 5 1, 3) := by decide +kernel
theorem dX7_paces_89 : decode cX7_paces 89 = .ok (.goto (-42), 3) := by decide +kernel
theorem dX7_paces_92 : decode cX7_paces 92 = .ok (.iconst 0, 1) := by decide +kernel
theorem dX7_paces_93 : decode cX7_paces 93 = .ok (.istore 5, 2) := by decide +kernel
theorem dX7_paces_95 : decode cX7_paces 95 = .ok (.iload 5, 2) := by decide +kernel
theorem dX7_paces_97 : decode cX7_paces 97 = .ok (.aload_n 0, 1) := by decide +kernel
theorem dX7_paces_98 : decode cX7_paces 98 = .ok (.getfield 7, 3) := by decide +kernel
theorem dX7_paces_101 : decode cX7_paces 101 = .ok (.iconst 2, 1) := by decide +kernel
theorem dX7_paces_102 : decode cX7_paces 102 = .ok (.iaload, 1) := by decide +kernel
theorem dX7_paces_103 : decode cX7_paces 103 = .ok (.if_icmp .ge 35, 3) := by decide +kernel
theorem dX7_paces_106 : decode cX7_paces 106 = .ok (.aload_n 0, 1) := by decide +kernel
theorem dX7_paces_107 : decode cX7_paces 107 = .ok (.getfield 7, 3) := by decide +kernel
theorem dX7_paces_110 : decode cX7_paces 110 = .ok (.iconst 0, 1) := by decide +kernel
theorem dX7_paces_111 : decode cX7_paces 111 = .ok (.iload 5, 2) := by decide +kernel
theorem dX7_paces_113 : decode cX7_paces 113 = .ok (.iconst 2, 1) := by decide +kernel
theorem dX7_paces_114 : decode cX7_paces 114 = .ok (.invokestatic 74, 3) := by decide +kernel
theorem dX7_paces_117 : decode cX7_paces 117 = .ok (.aload_n 0, 1) := by decide +kernel
theorem dX7_paces_118 : decode cX7_paces 118 = .ok (.getfield 20, 3) := by decide +kernel
theorem dX7_paces_121 : decode cX7_paces 121 = .ok (.bipush 36, 2) := by decide +kernel
theorem dX7_paces_123 : decode cX7_paces 123 = .ok (.iload_n 1, 1) := by decide +kernel
theorem dX7_paces_124 : decode cX7_paces 124 = .ok (.imul, 1) := by decide +kernel
theorem dX7_paces_125 : decode cX7_paces 125 = .ok (.iload_n 3, 1) := by decide +kernel
theorem dX7_paces_126 : decode cX7_paces 126 = .ok (.iadd, 1) := by decide +kernel
theorem dX7_paces_127 : decode cX7_paces 127 = .ok (.iload 5, 2) := by decide +kernel
theorem dX7_paces_129 : decode cX7_paces 129 = .ok (.iadd, 1) := by decide +kernel
theorem dX7_paces_130 : decode cX7_paces 130 = .ok (.iaload, 1) := by decide +kernel
theorem dX7_paces_131 : decode cX7_paces 131 = .ok (.iastore, 1) := by decide +kernel
theorem dX7_paces_132 : decode cX7_paces 132 = .ok (.iinc 5 1, 3) := by decide +kernel
theorem dX7_paces_135 : decode cX7_paces 135 = .ok (.goto (-40), 3) := by decide +kernel
theorem dX7_paces_138 : decode cX7_paces 138 = .ok (.aload_n 0, 1) := by decide +kernel
theorem dX7_paces_139 : decode cX7_paces 139 = .ok (.getfield 7, 3) := by decide +kernel
theorem dX7_paces_142 : decode cX7_paces 142 = .ok (.iconst 2, 1) := by decide +kernel
theorem dX7_paces_143 : decode cX7_paces 143 = .ok (.iaload, 1) := by decide +kernel
theorem dX7_paces_144 : decode cX7_paces 144 = .ok (.ireturn, 1) := by decide +kernel
theorem dX7_taps_0 : decode cX7_taps 0 = .ok (.iload_n 1, 1) := by decide +kernel
theorem dX7_taps_1 : decode cX7_taps 1 = .ok (.invokestatic 237, 3) := by decide +kernel
theorem dX7_taps_4 : decode cX7_taps 4 = .ok (.ifCond .ne 5, 3) := by decide +kernel
theorem dX7_taps_7 : decode cX7_taps 7 = .ok (.iconst (-1), 1) := by decide +kernel
theorem dX7_taps_8 : decode cX7_taps 8 = .ok (.ireturn, 1) := by decide +kernel
theorem dX7_taps_9 : decode cX7_taps 9 = .ok (.aload_n 0, 1) := by decide +kernel
theorem dX7_taps_10 : decode cX7_taps 10 = .ok (.iload_n 1, 1) := by decide +kernel
theorem dX7_taps_11 : decode cX7_taps 11 = .ok (.iconst 0, 1) := by decide +kernel
theorem dX7_taps_12 : decode cX7_taps 12 = .ok (.iload_n 2, 1) := by decide +kernel
theorem dX7_taps_13 : decode cX7_taps 13 = .ok (.aload_n 0, 1) := by decide +kernel
theorem dX7_taps_14 : decode cX7_taps 14 = .ok (.getfield 7, 3) := by decide +kernel
theorem dX7_taps_17 : decode cX7_taps 17 = .ok (.iconst 2, 1) := by decide +kernel
theorem dX7_taps_18 : decode cX7_taps 18 = .ok (.iaload, 1) := by decide +kernel
theorem dX7_taps_19 : decode cX7_taps 19 = .ok (.invokevirtual 240, 3) := by decide +kernel
theorem dX7_taps_22 : decode cX7_taps 22 = .ok (.istore_n 3, 1) := by decide +kernel
theorem dX7_taps_23 : decode cX7_taps 23 = .ok (.iload_n 3, 1) := by decide +kernel
theorem dX7_taps_24 : decode cX7_taps 24 = .ok (.ifCond .ge 5, 3) := by decide +kernel
theorem dX7_taps_27 : decode cX7_taps 27 = .ok (.iload_n 3, 1) := by decide +kernel
theorem dX7_taps_28 : decode cX7_taps 28 = .ok (.ireturn, 1) := by decide +kernel
theorem dX7_taps_29 : decode cX7_taps 29 = .ok (.iconst 0, 1) := by decide +kernel
theorem dX7_taps_30 : decode cX7_taps 30 = .ok (.istore 4, 2) := by decide +kernel
theorem dX7_taps_32 : decode cX7_taps 32 = .ok (.iconst 0, 1) := by decide +kernel
theorem dX7_taps_33 : decode cX7_taps 33 = .ok (.istore 5, 2) := by decide +kernel
theorem dX7_taps_35 : decode cX7_taps 35 = .ok (.iload 5, 2) := by decide +kernel
theorem dX7_taps_37 : decode cX7_taps 37 = .ok (.aload_n 0, 1) := by decide +kernel
theorem dX7_taps_38 : decode cX7_taps 38 = .ok (.getfield 7, 3) := by decide +kernel
theorem dX7_taps_41 : decode cX7_taps 41 = .ok (.iconst 2, 1) := by decide +kernel
theorem dX7_taps_42 : decode cX7_taps 42 = .ok (.iaload, 1) := by decide +kernel
theorem dX7_taps_43 : decode cX7_taps 43 = .ok (.if_icmp .ge 55, 3) := by decide +kernel
theorem dX7_taps_46 : decode cX7_taps 46 = .ok (.aload_n 0, 1) := by decide +kernel
theorem dX7_taps_47 : decode cX7_taps 47 = .ok (.getfield 7, 3) := by decide +kernel
theorem dX7_taps_50 : decode cX7_taps 50 = .ok (.iconst 0, 1) := by decide +kernel
theorem dX7_taps_51 : decode cX7_taps 51 = .ok (.iload 5, 2) := by decide +kernel
theorem dX7_taps_53 : decode cX7_taps 53 = .ok (.bipush 7, 2) := by decide +kernel
theorem dX7_taps_55 : decode cX7_taps 55 = .ok (.invokestatic 74, 3) := by decide +kernel
theorem dX7_taps_58 : decode cX7_taps 58 = .ok (.aload_n 0, 1) := by decide +kernel
theorem dX7_taps_59 : decode cX7_taps 59 = .ok (.getfield 20, 3) := by decide +kernel
theorem dX7_taps_62 : decode cX7_taps 62 = .ok (.bipush 36, 2) := by decide +kernel
theorem dX7_taps_64 : decode cX7_taps 64 = .ok (.iload_n 1, 1) := by decide +kernel
theorem dX7_taps_65 : decode cX7_taps 65 = .ok (.imul, 1) := by decide +kernel
theorem dX7_taps_66 : decode cX7_taps 66 = .ok (.iload_n 2, 1) := by decide +kernel
theorem dX7_taps_67 : decode cX7_taps 67 = .ok (.iadd, 1) := by decide +kernel
theorem dX7_taps_68 : decode cX7_taps 68 = .ok (.iload 5, 2) := by decide +kernel
theorem dX7_taps_70 : decode cX7_taps 70 = .ok (.iadd, 1) := by decide +kernel
theorem dX7_taps_71 : decode cX7_taps 71 = .ok (.iaload, 1) := by decide +kernel
theorem dX7_taps_72 : decode cX7_taps 72 = .ok (.iastore, 1) := by decide +kernel
theorem dX7_taps_73 : decode cX7_taps 73 = .ok (.iload 4, 2) := by decide +kernel
theorem dX7_taps_75 : decode cX7_taps 75 = .ok (.aload_n 0, 1) := by decide +kernel
theorem dX7_taps_76 : decode cX7_taps 76 = .ok (.getfield 20, 3) := by decide +kernel
theorem dX7_taps_79 : decode cX7_taps 79 = .ok (.bipush 36, 2) := by decide +kernel
theorem dX7_taps_81 : decode cX7_taps 81 = .ok (.iload_n 1, 1) := by decide +kernel
theorem dX7_taps_82 : decode cX7_taps 82 = .ok (.imul, 1) := by decide +kernel
theorem dX7_taps_83 : decode cX7_taps 83 = .ok (.iload_n 2, 1) := by decide +kernel
theorem dX7_taps_84 : decode cX7_taps 84 = .ok (.iadd, 1) := by decide +kernel
theorem dX7_taps_85 : decode cX7_taps 85 = .ok (.iload 5, 2) := by decide +kernel
theorem dX7_taps_87 : decode cX7_taps 87 = .ok (.iadd, 1) := by decide +kernel
theorem dX7_taps_88 : decode cX7_taps 88 = .ok (.iaload, 1) := by decide +kernel
theorem dX7_taps_89 : decode cX7_taps 89 = .ok (.iadd, 1) := by decide +kernel
theorem dX7_taps_90 : decode cX7_taps 90 = .ok (.istore 4, 2) := by decide +kernel
theorem dX7_taps_92 : decode cX7_taps 92 = .ok (.iinc 5 1, 3) := by decide +kernel
theorem dX7_taps_95 : decode cX7_taps 95 = .ok (.goto (-60), 3) := by decide +kernel
theorem dX7_taps_98 : decode cX7_taps 98 = .ok (.iload 4, 2) := by decide +kernel
theorem dX7_taps_100 : decode cX7_taps 100 = .ok (.ireturn, 1) := by decide +kernel
theorem dX7_sheet_0 : decode cX7_sheet 0 = .ok (.iload_n 1, 1) := by decide +kernel
theorem dX7_sheet_1 : decode cX7_sheet 1 = .ok (.invokestatic 237, 3) := by decide +kernel
theorem dX7_sheet_4 : decode cX7_sheet 4 = .ok (.ifCond .eq 21, 3) := by decide +kernel
theorem dX7_sheet_7 : decode cX7_sheet 7 = .ok (.iload_n 2, 1) := by decide +kernel
theorem dX7_sheet_8 : decode cX7_sheet 8 = .ok (.i2l, 1) := by decide +kernel
theorem dX7_sheet_9 : decode cX7_sheet 9 = .ok (.lconst 0, 1) := by decide +kernel
theorem dX7_sheet_10 : decode cX7_sheet 10 = .ok (.ldc2_w 88, 3) := by decide +kernel
theorem dX7_sheet_13 : decode cX7_sheet 13 = .ok (.invokestatic 53, 3) := by decide +kernel
theorem dX7_sheet_16 : decode cX7_sheet 16 = .ok (.ifCond .eq 9, 3) := by decide +kernel
theorem dX7_sheet_19 : decode cX7_sheet 19 = .ok (.iload_n 3, 1) := by decide +kernel
theorem dX7_sheet_20 : decode cX7_sheet 20 = .ok (.bipush 36, 2) := by decide +kernel
theorem dX7_sheet_22 : decode cX7_sheet 22 = .ok (.if_icmp .le 5, 3) := by decide +kernel
theorem dX7_sheet_25 : decode cX7_sheet 25 = .ok (.iconst (-1), 1) := by decide +kernel
theorem dX7_sheet_26 : decode cX7_sheet 26 = .ok (.ireturn, 1) := by decide +kernel
theorem dX7_sheet_27 : decode cX7_sheet 27 = .ok (.iload_n 3, 1) := by decide +kernel
theorem dX7_sheet_28 : decode cX7_sheet 28 = .ok (.ifCond .ge 6, 3) := by decide +kernel
theorem dX7_sheet_31 : decode cX7_sheet 31 = .ok (.bipush (-14), 2) := by decide +kernel
theorem dX7_sheet_33 : decode cX7_sheet 33 = .ok (.ireturn, 1) := by decide +kernel
theorem dX7_sheet_34 : decode cX7_sheet 34 = .ok (.aload_n 0, 1) := by decide +kernel
theorem dX7_sheet_35 : decode cX7_sheet 35 = .ok (.getfield 23, 3) := by decide +kernel
theorem dX7_sheet_38 : decode cX7_sheet 38 = .ok (.iload_n 1, 1) := by decide +kernel
theorem dX7_sheet_39 : decode cX7_sheet 39 = .ok (.iload_n 2, 1) := by decide +kernel
theorem dX7_sheet_40 : decode cX7_sheet 40 = .ok (.iastore, 1) := by decide +kernel
theorem dX7_sheet_41 : decode cX7_sheet 41 = .ok (.aload_n 0, 1) := by decide +kernel
theorem dX7_sheet_42 : decode cX7_sheet 42 = .ok (.getfield 26, 3) := by decide +kernel
theorem dX7_sheet_45 : decode cX7_sheet 45 = .ok (.iload_n 1, 1) := by decide +kernel
theorem dX7_sheet_46 : decode cX7_sheet 46 = .ok (.iload_n 3, 1) := by decide +kernel
theorem dX7_sheet_47 : decode cX7_sheet 47 = .ok (.iastore, 1) := by decide +kernel
theorem dX7_sheet_48 : decode cX7_sheet 48 = .ok (.iconst 0, 1) := by decide +kernel
theorem dX7_sheet_49 : decode cX7_sheet 49 = .ok (.istore 4, 2) := by decide +kernel
theorem dX7_sheet_51 : decode cX7_sheet 51 = .ok (.iload 4, 2) := by decide +kernel
theorem dX7_sheet_53 : decode cX7_sheet 53 = .ok (.bipush 36, 2) := by decide +kernel
theorem dX7_sheet_55 : decode cX7_sheet 55 = .ok (.if_icmp .ge 22, 3) := by decide +kernel
theorem dX7_sheet_58 : decode cX7_sheet 58 = .ok (.aload_n 0, 1) := by decide +kernel
theorem dX7_sheet_59 : decode cX7_sheet 59 = .ok (.getfield 20, 3) := by decide +kernel
theorem dX7_sheet_62 : decode cX7_sheet 62 = .ok (.bipush 36, 2) := by decide +kernel
theorem dX7_sheet_64 : decode cX7_sheet 64 = .ok (.iload_n 1, 1) := by decide +kernel
theorem dX7_sheet_65 : decode cX7_sheet 65 = .ok (.imul, 1) := by decide +kernel
theorem dX7_sheet_66 : decode cX7_sheet 66 = .ok (.iload 4, 2) := by decide +kernel
theorem dX7_sheet_68 : decode cX7_sheet 68 = .ok (.iadd, 1) := by decide +kernel
theorem dX7_sheet_69 : decode cX7_sheet 69 = .ok (.iconst 0, 1) := by decide +kernel
theorem dX7_sheet_70 : decode cX7_sheet 70 = .ok (.iastore, 1) := by decide +kernel
theorem dX7_sheet_71 : decode cX7_sheet 71 = .ok (.iinc 4 1, 3) := by decide +kernel
theorem dX7_sheet_74 : decode cX7_sheet 74 = .ok (.goto (-23), 3) := by decide +kernel
theorem dX7_sheet_77 : decode cX7_sheet 77 = .ok (.iload_n 3, 1) := by decide +kernel
theorem dX7_sheet_78 : decode cX7_sheet 78 = .ok (.ireturn, 1) := by decide +kernel
theorem dX7_drop_0 : decode cX7_drop 0 = .ok (.iload_n 1, 1) := by decide +kernel
theorem dX7_drop_1 : decode cX7_drop 1 = .ok (.invokestatic 237, 3) := by decide +kernel
theorem dX7_drop_4 : decode cX7_drop 4 = .ok (.ifCond .ne 5, 3) := by decide +kernel
theorem dX7_drop_7 : decode cX7_drop 7 = .ok (.iconst (-1), 1) := by decide +kernel
theorem dX7_drop_8 : decode cX7_drop 8 = .ok (.ireturn, 1) := by decide +kernel
theorem dX7_drop_9 : decode cX7_drop 9 = .ok (.aload_n 0, 1) := by decide +kernel
theorem dX7_drop_10 : decode cX7_drop 10 = .ok (.getfield 23, 3) := by decide +kernel
theorem dX7_drop_13 : decode cX7_drop 13 = .ok (.iload_n 1, 1) := by decide +kernel
theorem dX7_drop_14 : decode cX7_drop 14 = .ok (.iaload, 1) := by decide +kernel
theorem dX7_drop_15 : decode cX7_drop 15 = .ok (.ifCond .ge 6, 3) := by decide +kernel
theorem dX7_drop_18 : decode cX7_drop 18 = .ok (.bipush (-11), 2) := by decide +kernel
theorem dX7_drop_20 : decode cX7_drop 20 = .ok (.ireturn, 1) := by decide +kernel
theorem dX7_drop_21 : decode cX7_drop 21 = .ok (.aload_n 0, 1) := by decide +kernel
theorem dX7_drop_22 : decode cX7_drop 22 = .ok (.getfield 23, 3) := by decide +kernel
theorem dX7_drop_25 : decode cX7_drop 25 = .ok (.iload_n 1, 1) := by decide +kernel
theorem dX7_drop_26 : decode cX7_drop 26 = .ok (.iconst (-1), 1) := by decide +kernel
theorem dX7_drop_27 : decode cX7_drop 27 = .ok (.iastore, 1) := by decide +kernel
theorem dX7_drop_28 : decode cX7_drop 28 = .ok (.aload_n 0, 1) := by decide +kernel
theorem dX7_drop_29 : decode cX7_drop 29 = .ok (.getfield 26, 3) := by decide +kernel
theorem dX7_drop_32 : decode cX7_drop 32 = .ok (.iload_n 1, 1) := by decide +kernel
theorem dX7_drop_33 : decode cX7_drop 33 = .ok (.iaload, 1) := by decide +kernel
theorem dX7_drop_34 : decode cX7_drop 34 = .ok (.ireturn, 1) := by decide +kernel
theorem dX7_item_0 : decode cX7_item 0 = .ok (.iload_n 1, 1) := by decide +kernel
theorem dX7_item_1 : decode cX7_item 1 = .ok (.invokestatic 237, 3) := by decide +kernel
theorem dX7_item_4 : decode cX7_item 4 = .ok (.ifCond .eq 15, 3) := by decide +kernel
theorem dX7_item_7 : decode cX7_item 7 = .ok (.iload_n 2, 1) := by decide +kernel
theorem dX7_item_8 : decode cX7_item 8 = .ok (.i2l, 1) := by decide +kernel
theorem dX7_item_9 : decode cX7_item 9 = .ok (.lconst 0, 1) := by decide +kernel
theorem dX7_item_10 : decode cX7_item 10 = .ok (.ldc2_w 88, 3) := by decide +kernel
theorem dX7_item_13 : decode cX7_item 13 = .ok (.invokestatic 53, 3) := by decide +kernel
theorem dX7_item_16 : decode cX7_item 16 = .ok (.ifCond .ne 5, 3) := by decide +kernel
theorem dX7_item_19 : decode cX7_item 19 = .ok (.iconst (-1), 1) := by decide +kernel
theorem dX7_item_20 : decode cX7_item 20 = .ok (.ireturn, 1) := by decide +kernel
theorem dX7_item_21 : decode cX7_item 21 = .ok (.aload_n 0, 1) := by decide +kernel
theorem dX7_item_22 : decode cX7_item 22 = .ok (.iload_n 1, 1) := by decide +kernel
theorem dX7_item_23 : decode cX7_item 23 = .ok (.iload_n 2, 1) := by decide +kernel
theorem dX7_item_24 : decode cX7_item 24 = .ok (.iload_n 3, 1) := by decide +kernel
theorem dX7_item_25 : decode cX7_item 25 = .ok (.iconst 1, 1) := by decide +kernel
theorem dX7_item_26 : decode cX7_item 26 = .ok (.invokevirtual 240, 3) := by decide +kernel
theorem dX7_item_29 : decode cX7_item 29 = .ok (.istore 5, 2) := by decide +kernel
theorem dX7_item_31 : decode cX7_item 31 = .ok (.iload 5, 2) := by decide +kernel
theorem dX7_item_33 : decode cX7_item 33 = .ok (.ifCond .ge 6, 3) := by decide +kernel
theorem dX7_item_36 : decode cX7_item 36 = .ok (.iload 5, 2) := by decide +kernel
theorem dX7_item_38 : decode cX7_item 38 = .ok (.ireturn, 1) := by decide +kernel
theorem dX7_item_39 : decode cX7_item 39 = .ok (.aload_n 0, 1) := by decide +kernel
theorem dX7_item_40 : decode cX7_item 40 = .ok (.getfield 20, 3) := by decide +kernel
theorem dX7_item_43 : decode cX7_item 43 = .ok (.bipush 36, 2) := by decide +kernel
theorem dX7_item_45 : decode cX7_item 45 = .ok (.iload_n 1, 1) := by decide +kernel
theorem dX7_item_46 : decode cX7_item 46 = .ok (.imul, 1) := by decide +kernel
theorem dX7_item_47 : decode cX7_item 47 = .ok (.iload_n 3, 1) := by decide +kernel
theorem dX7_item_48 : decode cX7_item 48 = .ok (.iadd, 1) := by decide +kernel
theorem dX7_item_49 : decode cX7_item 49 = .ok (.iload_n 2, 1) := by decide +kernel
theorem dX7_item_50 : decode cX7_item 50 = .ok (.ifCond .ne 16, 3) := by decide +kernel
theorem dX7_item_53 : decode cX7_item 53 = .ok (.iload 4, 2) := by decide +kernel
theorem dX7_item_55 : decode cX7_item 55 = .ok (.ifCond .eq 7, 3) := by decide +kernel
theorem dX7_item_58 : decode cX7_item 58 = .ok (.iconst 1, 1) := by decide +kernel
theorem dX7_item_59 : decode cX7_item 59 = .ok (.goto 20, 3) := by decide +kernel
theorem dX7_item_62 : decode cX7_item 62 = .ok (.iconst 0, 1) := by decide +kernel
theorem dX7_item_63 : decode cX7_item 63 = .ok (.goto 16, 3) := by decide +kernel
theorem dX7_item_66 : decode cX7_item 66 = .ok (.iload_n 2, 1) := by decide +kernel
theorem dX7_item_67 : decode cX7_item 67 = .ok (.iconst 1, 1) := by decide +kernel
theorem dX7_item_68 : decode cX7_item 68 = .ok (.if_icmp .ne 9, 3) := by decide +kernel
theorem dX7_item_71 : decode cX7_item 71 = .ok (.iload 4, 2) := by decide +kernel
theorem dX7_item_73 : decode cX7_item 73 = .ok (.i2b, 1) := by decide +kernel
theorem dX7_item_74 : decode cX7_item 74 = .ok (.goto 5, 3) := by decide +kernel
theorem dX7_item_77 : decode cX7_item 77 = .ok (.iload 4, 2) := by decide +kernel
theorem dX7_item_79 : decode cX7_item 79 = .ok (.iastore, 1) := by decide +kernel
theorem dX7_item_80 : decode cX7_item 80 = .ok (.iconst 1, 1) := by decide +kernel
theorem dX7_item_81 : decode cX7_item 81 = .ok (.ireturn, 1) := by decide +kernel
theorem dX7_copy_0 : decode cX7_copy 0 = .ok (.iload_n 1, 1) := by decide +kernel
theorem dX7_copy_1 : decode cX7_copy 1 = .ok (.invokestatic 237, 3) := by decide +kernel
theorem dX7_copy_4 : decode cX7_copy 4 = .ok (.ifCond .eq 10, 3) := by decide +kernel
theorem dX7_copy_7 : decode cX7_copy 7 = .ok (.iload_n 3, 1) := by decide +kernel
theorem dX7_copy_8 : decode cX7_copy 8 = .ok (.invokestatic 237, 3) := by decide +kernel
theorem dX7_copy_11 : decode cX7_copy 11 = .ok (.ifCond .ne 5, 3) := by decide +kernel
theorem dX7_copy_14 : decode cX7_copy 14 = .ok (.iconst (-1), 1) := by decide +kernel
theorem dX7_copy_15 : decode cX7_copy 15 = .ok (.ireturn, 1) := by decide +kernel
theorem dX7_copy_16 : decode cX7_copy 16 = .ok (.aload_n 0, 1) := by decide +kernel
theorem dX7_copy_17 : decode cX7_copy 17 = .ok (.getfield 23, 3) := by decide +kernel
theorem dX7_copy_20 : decode cX7_copy 20 = .ok (.iload_n 1, 1) := by decide +kernel
theorem dX7_copy_21 : decode cX7_copy 21 = .ok (.iaload, 1) := by decide +kernel
theorem dX7_copy_22 : decode cX7_copy 22 = .ok (.ifCond .lt 12, 3) := by decide +kernel
theorem dX7_copy_25 : decode cX7_copy 25 = .ok (.aload_n 0, 1) := by decide +kernel
theorem dX7_copy_26 : decode cX7_copy 26 = .ok (.getfield 23, 3) := by decide +kernel
theorem dX7_copy_29 : decode cX7_copy 29 = .ok (.iload_n 3, 1) := by decide +kernel
theorem dX7_copy_30 : decode cX7_copy 30 = .ok (.iaload, 1) := by decide +kernel
theorem dX7_copy_31 : decode cX7_copy 31 = .ok (.ifCond .ge 6, 3) := by decide +kernel
theorem dX7_copy_34 : decode cX7_copy 34 = .ok (.bipush (-11), 2) := by decide +kernel
theorem dX7_copy_36 : decode cX7_copy 36 = .ok (.ireturn, 1) := by decide +kernel
theorem dX7_copy_37 : decode cX7_copy 37 = .ok (.aload_n 0, 1) := by decide +kernel
theorem dX7_copy_38 : decode cX7_copy 38 = .ok (.getfield 23, 3) := by decide +kernel
theorem dX7_copy_41 : decode cX7_copy 41 = .ok (.iload_n 1, 1) := by decide +kernel
theorem dX7_copy_42 : decode cX7_copy 42 = .ok (.iaload, 1) := by decide +kernel
theorem dX7_copy_43 : decode cX7_copy 43 = .ok (.aload_n 0, 1) := by decide +kernel
theorem dX7_copy_44 : decode cX7_copy 44 = .ok (.getfield 23, 3) := by decide +kernel
theorem dX7_copy_47 : decode cX7_copy 47 = .ok (.iload_n 3, 1) := by decide +kernel
theorem dX7_copy_48 : decode cX7_copy 48 = .ok (.iaload, 1) := by decide +kernel
theorem dX7_copy_49 : decode cX7_copy 49 = .ok (.if_icmp .eq 6, 3) := by decide +kernel
theorem dX7_copy_52 : decode cX7_copy 52 = .ok (.bipush (-12), 2) := by decide +kernel
theorem dX7_copy_54 : decode cX7_copy 54 = .ok (.ireturn, 1) := by decide +kernel
theorem dX7_copy_55 : decode cX7_copy 55 = .ok (.aload_n 0, 1) := by decide +kernel
theorem dX7_copy_56 : decode cX7_copy 56 = .ok (.iload_n 1, 1) := by decide +kernel
theorem dX7_copy_57 : decode cX7_copy 57 = .ok (.aload_n 0, 1) := by decide +kernel
theorem dX7_copy_58 : decode cX7_copy 58 = .ok (.getfield 23, 3) := by decide +kernel
theorem dX7_copy_61 : decode cX7_copy 61 = .ok (.iload_n 1, 1) := by decide +kernel
theorem dX7_copy_62 : decode cX7_copy 62 = .ok (.iaload, 1) := by decide +kernel
theorem dX7_copy_63 : decode cX7_copy 63 = .ok (.iload_n 2, 1) := by decide +kernel
theorem dX7_copy_64 : decode cX7_copy 64 = .ok (.iload 5, 2) := by decide +kernel
theorem dX7_copy_66 : decode cX7_copy 66 = .ok (.invokevirtual 240, 3) := by decide +kernel
theorem dX7_copy_69 : decode cX7_copy 69 = .ok (.ifCond .lt 21, 3) := by decide +kernel
theorem dX7_copy_72 : decode cX7_copy 72 = .ok (.aload_n 0, 1) := by decide +kernel
theorem dX7_copy_73 : decode cX7_copy 73 = .ok (.iload_n 3, 1) := by decide +kernel
theorem dX7_copy_74 : decode cX7_copy 74 = .ok (.aload_n 0, 1) := by decide +kernel
theorem dX7_copy_75 : decode cX7_copy 75 = .ok (.getfield 23, 3) := by decide +kernel
theorem dX7_copy_78 : decode cX7_copy 78 = .ok (.iload_n 3, 1) := by decide +kernel
theorem dX7_copy_79 : decode cX7_copy 79 = .ok (.iaload, 1) := by decide +kernel
theorem dX7_copy_80 : decode cX7_copy 80 = .ok (.iload 4, 2) := by decide +kernel
theorem dX7_copy_82 : decode cX7_copy 82 = .ok (.iload 5, 2) := by decide +kernel
theorem dX7_copy_84 : decode cX7_copy 84 = .ok (.invokevirtual 240, 3) := by decide +kernel
theorem dX7_copy_87 : decode cX7_copy 87 = .ok (.ifCond .ge 6, 3) := by decide +kernel
theorem dX7_copy_90 : decode cX7_copy 90 = .ok (.bipush (-13), 2) := by decide +kernel
theorem dX7_copy_92 : decode cX7_copy 92 = .ok (.ireturn, 1) := by decide +kernel
theorem dX7_copy_93 : decode cX7_copy 93 = .ok (.iconst 0, 1) := by decide +kernel
theorem dX7_copy_94 : decode cX7_copy 94 = .ok (.istore 6, 2) := by decide +kernel
theorem dX7_copy_96 : decode cX7_copy 96 = .ok (.iload 6, 2) := by decide +kernel
theorem dX7_copy_98 : decode cX7_copy 98 = .ok (.iload 5, 2) := by decide +kernel
theorem dX7_copy_100 : decode cX7_copy 100 = .ok (.if_icmp .ge 30, 3) := by decide +kernel
theorem dX7_copy_103 : decode cX7_copy 103 = .ok (.aload_n 0, 1) := by decide +kernel
theorem dX7_copy_104 : decode cX7_copy 104 = .ok (.getfield 29, 3) := by decide +kernel
theorem dX7_copy_107 : decode cX7_copy 107 = .ok (.iload 6, 2) := by decide +kernel
theorem dX7_copy_109 : decode cX7_copy 109 = .ok (.aload_n 0, 1) := by decide +kernel
theorem dX7_copy_110 : decode cX7_copy 110 = .ok (.getfield 20, 3) := by decide +kernel
theorem dX7_copy_113 : decode cX7_copy 113 = .ok (.bipush 36, 2) := by decide +kernel
theorem dX7_copy_115 : decode cX7_copy 115 = .ok (.iload_n 1, 1) := by decide +kernel
theorem dX7_copy_116 : decode cX7_copy 116 = .ok (.imul, 1) := by decide +kernel
theorem dX7_copy_117 : decode cX7_copy 117 = .ok (.iload_n 2, 1) := by decide +kernel
theorem dX7_copy_118 : decode cX7_copy 118 = .ok (.iadd, 1) := by decide +kernel
theorem dX7_copy_119 : decode cX7_copy 119 = .ok (.iload 6, 2) := by decide +kernel
theorem dX7_copy_121 : decode cX7_copy 121 = .ok (.iadd, 1) := by decide +kernel
theorem dX7_copy_122 : decode cX7_copy 122 = .ok (.iaload, 1) := by decide +kernel
theorem dX7_copy_123 : decode cX7_copy 123 = .ok (.iastore, 1) := by decide +kernel
theorem dX7_copy_124 : decode cX7_copy 124 = .ok (.iinc 6 1, 3) := by decide +kernel
theorem dX7_copy_127 : decode cX7_copy 127 = .ok (.goto (-31), 3) := by decide +kernel
theorem dX7_copy_130 : decode cX7_copy 130 = .ok (.iconst 0, 1) := by decide +kernel
theorem dX7_copy_131 : decode cX7_copy 131 = .ok (.istore 6, 2) := by decide +kernel
theorem dX7_copy_133 : decode cX7_copy 133 = .ok (.iload 6, 2) := by decide +kernel
theorem dX7_copy_135 : decode cX7_copy 135 = .ok (.iload 5, 2) := by decide +kernel
theorem dX7_copy_137 : decode cX7_copy 137 = .ok (.if_icmp .ge 31, 3) := by decide +kernel
theorem dX7_copy_140 : decode cX7_copy 140 = .ok (.aload_n 0, 1) := by decide +kernel
theorem dX7_copy_141 : decode cX7_copy 141 = .ok (.getfield 20, 3) := by decide +kernel
theorem dX7_copy_144 : decode cX7_copy 144 = .ok (.bipush 36, 2) := by decide +kernel
theorem dX7_copy_146 : decode cX7_copy 146 = .ok (.iload_n 3, 1) := by decide +kernel
theorem dX7_copy_147 : decode cX7_copy 147 = .ok (.imul, 1) := by decide +kernel
theorem dX7_copy_148 : decode cX7_copy 148 = .ok (.iload 4, 2) := by decide +kernel
theorem dX7_copy_150 : decode cX7_copy 150 = .ok (.iadd, 1) := by decide +kernel
theorem dX7_copy_151 : decode cX7_copy 151 = .ok (.iload 6, 2) := by decide +kernel
theorem dX7_copy_153 : decode cX7_copy 153 = .ok (.iadd, 1) := by decide +kernel
theorem dX7_copy_154 : decode cX7_copy 154 = .ok (.aload_n 0, 1) := by decide +kernel
theorem dX7_copy_155 : decode cX7_copy 155 = .ok (.getfield 29, 3) := by decide +kernel
theorem dX7_copy_158 : decode cX7_copy 158 = .ok (.iload 6, 2) := by decide +kernel
theorem dX7_copy_160 : decode cX7_copy 160 = .ok (.iaload, 1) := by decide +kernel
theorem dX7_copy_161 : decode cX7_copy 161 = .ok (.iastore, 1) := by decide +kernel
theorem dX7_copy_162 : decode cX7_copy 162 = .ok (.iinc 6 1, 3) := by decide +kernel
theorem dX7_copy_165 : decode cX7_copy 165 = .ok (.goto (-32), 3) := by decide +kernel
theorem dX7_copy_168 : decode cX7_copy 168 = .ok (.iload 5, 2) := by decide +kernel
theorem dX7_copy_170 : decode cX7_copy 170 = .ok (.ireturn, 1) := by decide +kernel
