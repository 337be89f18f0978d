theorem dX6_paces_13 : decode cX6_paces 13 = .ok (.ifCond .ne 5, 3) := by decide +kernel
theorem dX6_paces_16 : decode cX6_paces 16 = .ok (.iconst (-1), 1) := by decide +kernel
theorem dX6_paces_17 : decode cX6_paces 17 = .ok (.ireturn, 1) := by decide +kernel
theorem dX6_paces_18 : decode cX6_paces 18 = .ok (.aload_n 0, 1) := by decide +kernel
theorem dX6_paces_19 : decode cX6_paces 19 = .ok (.getfield 28, 3) := by decide +kernel
theorem dX6_paces_22 : decode cX6_paces 22 = .ok (.iload_n 1, 1) := by decide +kernel
theorem dX6_paces_23 : decode cX6_paces 23 = .ok (.aaload, 1) := by decide +kernel
theorem dX6_paces_24 : decode cX6_paces 24 = .ok (.astore 4, 2) := by decide +kernel
theorem dX6_paces_26 : decode cX6_paces 26 = .ok (.aload 4, 2) := by decide +kernel
theorem dX6_paces_28 : decode cX6_paces 28 = .ok (.iload_n 2, 1) := by decide +kernel
theorem dX6_paces_29 : decode cX6_paces 29 = .ok (.iload_n 3, 1) := by decide +kernel
theorem dX6_paces_30 : decode cX6_paces 30 = .ok (.aload_n 0, 1) := by decide +kernel
theorem dX6_paces_31 : decode cX6_paces 31 = .ok (.getfield 47, 3) := by decide +kernel
theorem dX6_paces_34 : decode cX6_paces 34 = .ok (.getfield 67, 3) := by decide +kernel
theorem dX6_paces_37 : decode cX6_paces 37 = .ok (.invokevirtual 241, 3) := by decide +kernel
theorem dX6_paces_40 : decode cX6_paces 40 = .ok (.istore 5, 2) := by decide +kernel
theorem dX6_paces_42 : decode cX6_paces 42 = .ok (.iload 5, 2) := by decide +kernel
theorem dX6_paces_44 : decode cX6_paces 44 = .ok (.ifCond .ge 6, 3) := by decide +kernel
theorem dX6_paces_47 : decode cX6_paces 47 = .ok (.iload 5, 2) := by decide +kernel
theorem dX6_paces_49 : decode cX6_paces 49 = .ok (.ireturn, 1) := by decide +kernel
theorem dX6_paces_50 : decode cX6_paces 50 = .ok (.iconst 0, 1) := by decide +kernel
theorem dX6_paces_51 : decode cX6_paces 51 = .ok (.istore 6, 2) := by decide +kernel
theorem dX6_paces_53 : decode cX6_paces 53 = .ok (.iload 6, 2) := by decide +kernel
theorem dX6_paces_55 : decode cX6_paces 55 = .ok (.aload_n 0, 1) := by decide +kernel
theorem dX6_paces_56 : decode cX6_paces 56 = .ok (.getfield 47, 3) := by decide +kernel
theorem dX6_paces_59 : decode cX6_paces 59 = .ok (.getfield 67, 3) := by decide +kernel
theorem dX6_paces_62 : decode cX6_paces 62 = .ok (.if_icmp .ge 28, 3) := by decide +kernel
theorem dX6_paces_65 : decode cX6_paces 65 = .ok (.aload 4, 2) := by decide +kernel
theorem dX6_paces_67 : decode cX6_paces 67 = .ok (.getfield 244, 3) := by decide +kernel
theorem dX6_paces_70 : decode cX6_paces 70 = .ok (.iload_n 3, 1) := by decide +kernel
theorem dX6_paces_71 : decode cX6_paces 71 = .ok (.iload 6, 2) := by decide +kernel
theorem dX6_paces_73 : decode cX6_paces 73 = .ok (.iadd, 1) := by decide +kernel
theorem dX6_paces_74 : decode cX6_paces 74 = .ok (.iaload, 1) := by decide +kernel
theorem dX6_paces_75 : decode cX6_paces 75 = .ok (.invokestatic 83, 3) := by decide +kernel
theorem dX6_paces_78 : decode cX6_paces 78 = .ok (.ifCond .ne 6, 3) := by decide +kernel
theorem dX6_paces_81 : decode cX6_paces 81 = .ok (.bipush (-2), 2) := by decide +kernel
theorem dX6_paces_83 : decode cX6_paces 83 = .ok (.ireturn, 1) := by decide +kernel
theorem dX6_paces_84 : decode cX6_paces 84 = .ok (.iinc 6 1, 3) := by decide +kernel
theorem dX6_paces_87 : decode cX6_paces 87 = .ok (.goto (-34), 3) := by decide +kernel
theorem dX6_paces_90 : decode cX6_paces 90 = .ok (.iconst 0, 1) := by decide +kernel
theorem dX6_paces_91 : decode cX6_paces 91 = .ok (.istore 6, 2) := by decide +kernel
theorem dX6_paces_93 : decode cX6_paces 93 = .ok (.iload 6, 2) := by decide +kernel
theorem dX6_paces_95 : decode cX6_paces 95 = .ok (.aload_n 0, 1) := by decide +kernel
theorem dX6_paces_96 : decode cX6_paces 96 = .ok (.getfield 47, 3) := by decide +kernel
theorem dX6_paces_99 : decode cX6_paces 99 = .ok (.getfield 67, 3) := by decide +kernel
theorem dX6_paces_102 : decode cX6_paces 102 = .ok (.if_icmp .ge 32, 3) := by decide +kernel
theorem dX6_paces_105 : decode cX6_paces 105 = .ok (.aload_n 0, 1) := by decide +kernel
theorem dX6_paces_106 : decode cX6_paces 106 = .ok (.getfield 47, 3) := by decide +kernel
theorem dX6_paces_109 : decode cX6_paces 109 = .ok (.getfield 100, 3) := by decide +kernel
theorem dX6_paces_112 : decode cX6_paces 112 = .ok (.iload 6, 2) := by decide +kernel
theorem dX6_paces_114 : decode cX6_paces 114 = .ok (.aaload, 1) := by decide +kernel
theorem dX6_paces_115 : decode cX6_paces 115 = .ok (.aload 4, 2) := by decide +kernel
theorem dX6_paces_117 : decode cX6_paces 117 = .ok (.getfield 244, 3) := by decide +kernel
theorem dX6_paces_120 : decode cX6_paces 120 = .ok (.iload_n 3, 1) := by decide +kernel
theorem dX6_paces_121 : decode cX6_paces 121 = .ok (.iload 6, 2) := by decide +kernel
theorem dX6_paces_123 : decode cX6_paces 123 = .ok (.iadd, 1) := by decide +kernel
theorem dX6_paces_124 : decode cX6_paces 124 = .ok (.iaload, 1) := by decide +kernel
theorem dX6_paces_125 : decode cX6_paces 125 = .ok (.putfield 122, 3) := by decide +kernel
theorem dX6_paces_128 : decode cX6_paces 128 = .ok (.iinc 6 1, 3) := by decide +kernel
theorem dX6_paces_131 : decode cX6_paces 131 = .ok (.goto (-38), 3) := by decide +kernel
theorem dX6_paces_134 : decode cX6_paces 134 = .ok (.aload_n 0, 1) := by decide +kernel
theorem dX6_paces_135 : decode cX6_paces 135 = .ok (.getfield 47, 3) := by decide +kernel
theorem dX6_paces_138 : decode cX6_paces 138 = .ok (.getfield 67, 3) := by decide +kernel
theorem dX6_paces_141 : decode cX6_paces 141 = .ok (.ireturn, 1) := by decide +kernel
theorem dX6_taps_0 : decode cX6_taps 0 = .ok (.iload_n 1, 1) := by decide +kernel
theorem dX6_taps_1 : decode cX6_taps 1 = .ok (.invokestatic 238, 3) := by decide +kernel
theorem dX6_taps_4 : decode cX6_taps 4 = .ok (.ifCond .ne 5, 3) := by decide +kernel
theorem dX6_taps_7 : decode cX6_taps 7 = .ok (.iconst (-1), 1) := by decide +kernel
theorem dX6_taps_8 : decode cX6_taps 8 = .ok (.ireturn, 1) := by decide +kernel
theorem dX6_taps_9 : decode cX6_taps 9 = .ok (.aload_n 0, 1) := by decide +kernel
theorem dX6_taps_10 : decode cX6_taps 10 = .ok (.getfield 28, 3) := by decide +kernel
theorem dX6_taps_13 : decode cX6_taps 13 = .ok (.iload_n 1, 1) := by decide +kernel
theorem dX6_taps_14 : decode cX6_taps 14 = .ok (.aaload, 1) := by decide +kernel
theorem dX6_taps_15 : decode cX6_taps 15 = .ok (.astore_n 3, 1) := by decide +kernel
theorem dX6_taps_16 : decode cX6_taps 16 = .ok (.aload_n 3, 1) := by decide +kernel
theorem dX6_taps_17 : decode cX6_taps 17 = .ok (.iconst 0, 1) := by decide +kernel
theorem dX6_taps_18 : decode cX6_taps 18 = .ok (.iload_n 2, 1) := by decide +kernel
theorem dX6_taps_19 : decode cX6_taps 19 = .ok (.aload_n 0, 1) := by decide +kernel
theorem dX6_taps_20 : decode cX6_taps 20 = .ok (.getfield 47, 3) := by decide +kernel
theorem dX6_taps_23 : decode cX6_taps 23 = .ok (.getfield 67, 3) := by decide +kernel
theorem dX6_taps_26 : decode cX6_taps 26 = .ok (.invokevirtual 241, 3) := by decide +kernel
theorem dX6_taps_29 : decode cX6_taps 29 = .ok (.istore 4, 2) := by decide +kernel
theorem dX6_taps_31 : decode cX6_taps 31 = .ok (.iload 4, 2) := by decide +kernel
theorem dX6_taps_33 : decode cX6_taps 33 = .ok (.ifCond .ge 6, 3) := by decide +kernel
theorem dX6_taps_36 : decode cX6_taps 36 = .ok (.iload 4, 2) := by decide +kernel
theorem dX6_taps_38 : decode cX6_taps 38 = .ok (.ireturn, 1) := by decide +kernel
theorem dX6_taps_39 : decode cX6_taps 39 = .ok (.iconst 0, 1) := by decide +kernel
theorem dX6_taps_40 : decode cX6_taps 40 = .ok (.istore 5, 2) := by decide +kernel
theorem dX6_taps_42 : decode cX6_taps 42 = .ok (.iconst 0, 1) := by decide +kernel
theorem dX6_taps_43 : decode cX6_taps 43 = .ok (.istore 6, 2) := by decide +kernel
theorem dX6_taps_45 : decode cX6_taps 45 = .ok (.iload 6, 2) := by decide +kernel
theorem dX6_taps_47 : decode cX6_taps 47 = .ok (.aload_n 0, 1) := by decide +kernel
theorem dX6_taps_48 : decode cX6_taps 48 = .ok (.getfield 47, 3) := by decide +kernel
theorem dX6_taps_51 : decode cX6_taps 51 = .ok (.getfield 67, 3) := by decide +kernel
theorem dX6_taps_54 : decode cX6_taps 54 = .ok (.if_icmp .ge 53, 3) := by decide +kernel
theorem dX6_taps_57 : decode cX6_taps 57 = .ok (.aload_n 0, 1) := by decide +kernel
theorem dX6_taps_58 : decode cX6_taps 58 = .ok (.getfield 47, 3) := by decide +kernel
theorem dX6_taps_61 : decode cX6_taps 61 = .ok (.getfield 100, 3) := by decide +kernel
theorem dX6_taps_64 : decode cX6_taps 64 = .ok (.iload 6, 2) := by decide +kernel
theorem dX6_taps_66 : decode cX6_taps 66 = .ok (.aaload, 1) := by decide +kernel
theorem dX6_taps_67 : decode cX6_taps 67 = .ok (.aload_n 3, 1) := by decide +kernel
theorem dX6_taps_68 : decode cX6_taps 68 = .ok (.getfield 244, 3) := by decide +kernel
theorem dX6_taps_71 : decode cX6_taps 71 = .ok (.iload_n 2, 1) := by decide +kernel
theorem dX6_taps_72 : decode cX6_taps 72 = .ok (.iload 6, 2) := by decide +kernel
theorem dX6_taps_74 : decode cX6_taps 74 = .ok (.iadd, 1) := by decide +kernel
theorem dX6_taps_75 : decode cX6_taps 75 = .ok (.iaload, 1) := by decide +kernel
theorem dX6_taps_76 : decode cX6_taps 76 = .ok (.ifCond .eq 7, 3) := by decide +kernel
theorem dX6_taps_79 : decode cX6_taps 79 = .ok (.iconst 1, 1) := by decide +kernel
theorem dX6_taps_80 : decode cX6_taps 80 = .ok (.goto 4, 3) := by decide +kernel
theorem dX6_taps_83 : decode cX6_taps 83 = .ok (.iconst 0, 1) := by decide +kernel
theorem dX6_taps_84 : decode cX6_taps 84 = .ok (.putfield 184, 3) := by decide +kernel
theorem dX6_taps_87 : decode cX6_taps 87 = .ok (.iload 5, 2) := by decide +kernel
theorem dX6_taps_89 : decode cX6_taps 89 = .ok (.aload_n 3, 1) := by decide +kernel
theorem dX6_taps_90 : decode cX6_taps 90 = .ok (.getfield 244, 3) := by decide +kernel
theorem dX6_taps_93 : decode cX6_taps 93 = .ok (.iload_n 2, 1) := by decide +kernel
theorem dX6_taps_94 : decode cX6_taps 94 = .ok (.iload 6, 2) := by decide +kernel
theorem dX6_taps_96 : decode cX6_taps 96 = .ok (.iadd, 1) := by decide +kernel
theorem dX6_taps_97 : decode cX6_taps 97 = .ok (.iaload, 1) := by decide +kernel
theorem dX6_taps_98 : decode cX6_taps 98 = .ok (.iadd, 1) := by decide +kernel
theorem dX6_taps_99 : decode cX6_taps 99 = .ok (.istore 5, 2) := by decide +kernel
theorem dX6_taps_101 : decode cX6_taps 101 = .ok (.iinc 6 1, 3) := by decide +kernel
theorem dX6_taps_104 : decode cX6_taps 104 = .ok (.goto (-59), 3) := by decide +kernel
theorem dX6_taps_107 : decode cX6_taps 107 = .ok (.iload 5, 2) := by decide +kernel
theorem dX6_taps_109 : decode cX6_taps 109 = .ok (.ireturn, 1) := by decide +kernel
theorem dX6_foretell_0 : decode cX6_foretell 0 = .ok (.aload_n 0, 1) := by decide +kernel
theorem dX6_foretell_1 : decode cX6_foretell 1 = .ok (.getfield 51, 3) := by decide +kernel
theorem dX6_foretell_4 : decode cX6_foretell 4 = .ok (.aload_n 0, 1) := by decide +kernel
theorem dX6_foretell_5 : decode cX6_foretell 5 = .ok (.getfield 47, 3) := by decide +kernel
theorem dX6_foretell_8 : decode cX6_foretell 8 = .ok (.invokevirtual 227, 3) := by decide +kernel
theorem dX6_foretell_11 : decode cX6_foretell 11 = .ok (.aload_n 0, 1) := by decide +kernel
theorem dX6_foretell_12 : decode cX6_foretell 12 = .ok (.getfield 51, 3) := by decide +kernel
theorem dX6_foretell_15 : decode cX6_foretell 15 = .ok (.getfield 100, 3) := by decide +kernel
theorem dX6_foretell_18 : decode cX6_foretell 18 = .ok (.iload_n 1, 1) := by decide +kernel
theorem dX6_foretell_19 : decode cX6_foretell 19 = .ok (.aaload, 1) := by decide +kernel
theorem dX6_foretell_20 : decode cX6_foretell 20 = .ok (.iload_n 2, 1) := by decide +kernel
theorem dX6_foretell_21 : decode cX6_foretell 21 = .ok (.putfield 184, 3) := by decide +kernel
theorem dX6_foretell_24 : decode cX6_foretell 24 = .ok (.aload_n 0, 1) := by decide +kernel
theorem dX6_foretell_25 : decode cX6_foretell 25 = .ok (.getfield 51, 3) := by decide +kernel
theorem dX6_foretell_28 : decode cX6_foretell 28 = .ok (.iload_n 3, 1) := by decide +kernel
theorem dX6_foretell_29 : decode cX6_foretell 29 = .ok (.invokevirtual 192, 3) := by decide +kernel
theorem dX6_foretell_32 : decode cX6_foretell 32 = .ok (.return_, 1) := by decide +kernel
theorem dX6_sheet_0 : decode cX6_sheet 0 = .ok (.iload_n 1, 1) := by decide +kernel
theorem dX6_sheet_1 : decode cX6_sheet 1 = .ok (.invokestatic 238, 3) := by decide +kernel
theorem dX6_sheet_4 : decode cX6_sheet 4 = .ok (.ifCond .eq 18, 3) := by decide +kernel
theorem dX6_sheet_7 : decode cX6_sheet 7 = .ok (.iload_n 2, 1) := by decide +kernel
theorem dX6_sheet_8 : decode cX6_sheet 8 = .ok (.iconst 0, 1) := by decide +kernel
theorem dX6_sheet_9 : decode cX6_sheet 9 = .ok (.iconst 2, 1) := by decide +kernel
theorem dX6_sheet_10 : decode cX6_sheet 10 = .ok (.invokestatic 59, 3) := by decide +kernel
theorem dX6_sheet_13 : decode cX6_sheet 13 = .ok (.ifCond .eq 9, 3) := by decide +kernel
theorem dX6_sheet_16 : decode cX6_sheet 16 = .ok (.iload_n 3, 1) := by decide +kernel
theorem dX6_sheet_17 : decode cX6_sheet 17 = .ok (.bipush 36, 2) := by decide +kernel
theorem dX6_sheet_19 : decode cX6_sheet 19 = .ok (.if_icmp .le 5, 3) := by decide +kernel
theorem dX6_sheet_22 : decode cX6_sheet 22 = .ok (.iconst (-1), 1) := by decide +kernel
theorem dX6_sheet_23 : decode cX6_sheet 23 = .ok (.ireturn, 1) := by decide +kernel
theorem dX6_sheet_24 : decode cX6_sheet 24 = .ok (.iload_n 3, 1) := by decide +kernel
theorem dX6_sheet_25 : decode cX6_sheet 25 = .ok (.ifCond .ge 6, 3) := by decide +kernel
theorem dX6_sheet_28 : decode cX6_sheet 28 = .ok (.bipush (-14), 2) := by decide +kernel
theorem dX6_sheet_30 : decode cX6_sheet 30 = .ok (.ireturn, 1) := by decide +kernel
theorem dX6_sheet_31 : decode cX6_sheet 31 = .ok (.aload_n 0, 1) := by decide +kernel
theorem dX6_sheet_32 : decode cX6_sheet 32 = .ok (.getfield 28, 3) := by decide +kernel
theorem dX6_sheet_35 : decode cX6_sheet 35 = .ok (.iload_n 1, 1) := by decide +kernel
theorem dX6_sheet_36 : decode cX6_sheet 36 = .ok (.aaload, 1) := by decide +kernel
theorem dX6_sheet_37 : decode cX6_sheet 37 = .ok (.iload_n 2, 1) := by decide +kernel
theorem dX6_sheet_38 : decode cX6_sheet 38 = .ok (.iload_n 3, 1) := by decide +kernel
theorem dX6_sheet_39 : decode cX6_sheet 39 = .ok (.invokevirtual 247, 3) := by decide +kernel
theorem dX6_sheet_42 : decode cX6_sheet 42 = .ok (.iload_n 3, 1) := by decide +kernel
theorem dX6_sheet_43 : decode cX6_sheet 43 = .ok (.ireturn, 1) := by decide +kernel
theorem dX6_drop_0 : decode cX6_drop 0 = .ok (.iload_n 1, 1) := by decide +kernel
theorem dX6_drop_1 : decode cX6_drop 1 = .ok (.invokestatic 238, 3) := by decide +kernel
theorem dX6_drop_4 : decode cX6_drop 4 = .ok (.ifCond .ne 5, 3) := by decide +kernel
theorem dX6_drop_7 : decode cX6_drop 7 = .ok (.iconst (-1), 1) := by decide +kernel
theorem dX6_drop_8 : decode cX6_drop 8 = .ok (.ireturn, 1) := by decide +kernel
theorem dX6_drop_9 : decode cX6_drop 9 = .ok (.aload_n 0, 1) := by decide +kernel
theorem dX6_drop_10 : decode cX6_drop 10 = .ok (.getfield 28, 3) := by decide +kernel
theorem dX6_drop_13 : decode cX6_drop 13 = .ok (.iload_n 1, 1) := by decide +kernel
theorem dX6_drop_14 : decode cX6_drop 14 = .ok (.aaload, 1) := by decide +kernel
theorem dX6_drop_15 : decode cX6_drop 15 = .ok (.astore_n 2, 1) := by decide +kernel
theorem dX6_drop_16 : decode cX6_drop 16 = .ok (.aload_n 2, 1) := by decide +kernel
theorem dX6_drop_17 : decode cX6_drop 17 = .ok (.getfield 251, 3) := by decide +kernel
theorem dX6_drop_20 : decode cX6_drop 20 = .ok (.iconst (-1), 1) := by decide +kernel
theorem dX6_drop_21 : decode cX6_drop 21 = .ok (.if_icmp .ne 6, 3) := by decide +kernel
theorem dX6_drop_24 : decode cX6_drop 24 = .ok (.bipush (-11), 2) := by decide +kernel
theorem dX6_drop_26 : decode cX6_drop 26 = .ok (.ireturn, 1) := by decide +kernel
theorem dX6_drop_27 : decode cX6_drop 27 = .ok (.aload_n 2, 1) := by decide +kernel
theorem dX6_drop_28 : decode cX6_drop 28 = .ok (.iconst (-1), 1) := by decide +kernel
theorem dX6_drop_29 : decode cX6_drop 29 = .ok (.putfield 251, 3) := by decide +kernel
theorem dX6_drop_32 : decode cX6_drop 32 = .ok (.aload_n 2, 1) := by decide +kernel
theorem dX6_drop_33 : decode cX6_drop 33 = .ok (.getfield 252, 3) := by decide +kernel
theorem dX6_drop_36 : decode cX6_drop 36 = .ok (.ireturn, 1) := by decide +kernel
theorem dX6_item_0 : decode cX6_item 0 = .ok (.iload_n 1, 1) := by decide +kernel
theorem dX6_item_1 : decode cX6_item 1 = .ok (.invokestatic 238, 3) := by decide +kernel
theorem dX6_item_4 : decode cX6_item 4 = .ok (.ifCond .eq 12, 3) := by decide +kernel
theorem dX6_item_7 : decode cX6_item 7 = .ok (.iload_n 2, 1) := by decide +kernel
theorem dX6_item_8 : decode cX6_item 8 = .ok (.iconst 0, 1) := by decide +kernel
theorem dX6_item_9 : decode cX6_item 9 = .ok (.iconst 2, 1) := by decide +kernel
theorem dX6_item_10 : decode cX6_item 10 = .ok (.invokestatic 59, 3) := by decide +kernel
theorem dX6_item_13 : decode cX6_item 13 = .ok (.ifCond .ne 5, 3) := by decide +kernel
theorem dX6_item_16 : decode cX6_item 16 = .ok (.iconst (-1), 1) := by decide +kernel
theorem dX6_item_17 : decode cX6_item 17 = .ok (.ireturn, 1) := by decide +kernel
theorem dX6_item_18 : decode cX6_item 18 = .ok (.aload_n 0, 1) := by decide +kernel
theorem dX6_item_19 : decode cX6_item 19 = .ok (.getfield 28, 3) := by decide +kernel
theorem dX6_item_22 : decode cX6_item 22 = .ok (.iload_n 1, 1) := by decide +kernel
theorem dX6_item_23 : decode cX6_item 23 = .ok (.aaload, 1) := by decide +kernel
theorem dX6_item_24 : decode cX6_item 24 = .ok (.iload_n 2, 1) := by decide +kernel
theorem dX6_item_25 : decode cX6_item 25 = .ok (.iload_n 3, 1) := by decide +kernel
theorem dX6_item_26 : decode cX6_item 26 = .ok (.iconst 1, 1) := by decide +kernel
theorem dX6_item_27 : decode cX6_item 27 = .ok (.invokevirtual 241, 3) := by decide +kernel
theorem dX6_item_30 : decode cX6_item 30 = .ok (.istore 5, 2) := by decide +kernel
theorem dX6_item_32 : decode cX6_item 32 = .ok (.iload 5, 2) := by decide +kernel
theorem dX6_item_34 : decode cX6_item 34 = .ok (.ifCond .ge 6, 3) := by decide +kernel
theorem dX6_item_37 : decode cX6_item 37 = .ok (.iload 5, 2) := by decide +kernel
theorem dX6_item_39 : decode cX6_item 39 = .ok (.ireturn, 1) := by decide +kernel
theorem dX6_item_40 : decode cX6_item 40 = .ok (.aload_n 0, 1) := by decide +kernel
theorem dX6_item_41 : decode cX6_item 41 = .ok (.getfield 28, 3) := by decide +kernel
theorem dX6_item_44 : decode cX6_item 44 = .ok (.iload_n 1, 1) := by decide +kernel
theorem dX6_item_45 : decode cX6_item 45 = .ok (.aaload, 1) := by decide +kernel
theorem dX6_item_46 : decode cX6_item 46 = .ok (.iload_n 3, 1) := by decide +kernel
theorem dX6_item_47 : decode cX6_item 47 = .ok (.iload 4, 2) := by decide +kernel
theorem dX6_item_49 : decode cX6_item 49 = .ok (.invokevirtual 253, 3) := by decide +kernel
theorem dX6_item_52 : decode cX6_item 52 = .ok (.iconst 1, 1) := by decide +kernel
theorem dX6_item_53 : decode cX6_item 53 = .ok (.ireturn, 1) := by decide +kernel
theorem dX6_copy_0 : decode cX6_copy 0 = .ok (.iload_n 1, 1) := by decide +kernel
theorem dX6_copy_1 : decode cX6_copy 1 = .ok (.invokestatic 238, 3) := by decide +kernel
theorem dX6_copy_4 : decode cX6_copy 4 = .ok (.ifCond .eq 10, 3) := by decide +kernel
theorem dX6_copy_7 : decode cX6_copy 7 = .ok (.iload_n 3, 1) := by decide +kernel
theorem dX6_copy_8 : decode cX6_copy 8 = .ok (.invokestatic 238, 3) := by decide +kernel
theorem dX6_copy_11 : decode cX6_copy 11 = .ok (.ifCond .ne 5, 3) := by decide +kernel
theorem dX6_copy_14 : decode cX6_copy 14 = .ok (.iconst (-1), 1) := by decide +kernel
theorem dX6_copy_15 : decode cX6_copy 15 = .ok (.ireturn, 1) := by decide +kernel
theorem dX6_copy_16 : decode cX6_copy 16 = .ok (.aload_n 0, 1) := by decide +kernel
theorem dX6_copy_17 : decode cX6_copy 17 = .ok (.getfield 28, 3) := by decide +kernel
theorem dX6_copy_20 : decode cX6_copy 20 = .ok (.iload_n 1, 1) := by decide +kernel
theorem dX6_copy_21 : decode cX6_copy 21 = .ok (.aaload, 1) := by decide +kernel
theorem dX6_copy_22 : decode cX6_copy 22 = .ok (.astore 6, 2) := by decide +kernel
theorem dX6_copy_24 : decode cX6_copy 24 = .ok (.aload_n 0, 1) := by decide +kernel
theorem dX6_copy_25 : decode cX6_copy 25 = .ok (.getfield 28, 3) := by decide +kernel
theorem dX6_copy_28 : decode cX6_copy 28 = .ok (.iload_n 3, 1) := by decide +kernel
theorem dX6_copy_29 : decode cX6_copy 29 = .ok (.aaload, 1) := by decide +kernel
theorem dX6_copy_30 : decode cX6_copy 30 = .ok (.astore 7, 2) := by decide +kernel
theorem dX6_copy_32 : decode cX6_copy 32 = .ok (.aload 6, 2) := by decide +kernel
theorem dX6_copy_34 : decode cX6_copy 34 = .ok (.getfield 251, 3) := by decide +kernel
theorem dX6_copy_37 : decode cX6_copy 37 = .ok (.iconst (-1), 1) := by decide +kernel
theorem dX6_copy_38 : decode cX6_copy 38 = .ok (.if_icmp .eq 12, 3) := by decide +kernel
theorem dX6_copy_41 : decode cX6_copy 41 = .ok (.aload 7, 2) := by decide +kernel
theorem dX6_copy_43 : decode cX6_copy 43 = .ok (.getfield 251, 3) := by decide +kernel
theorem dX6_copy_46 : decode cX6_copy 46 = .ok (.iconst (-1), 1) := by decide +kernel
theorem dX6_copy_47 : decode cX6_copy 47 = .ok (.if_icmp .ne 6, 3) := by decide +kernel
theorem dX6_copy_50 : decode cX6_copy 50 = .ok (.bipush (-11), 2) := by decide +kernel
theorem dX6_copy_52 : decode cX6_copy 52 = .ok (.ireturn, 1) := by decide +kernel
theorem dX6_copy_53 : decode cX6_copy 53 = .ok (.aload 6, 2) := by decide +kernel
theorem dX6_copy_55 : decode cX6_copy 55 = .ok (.getfield 251, 3) := by decide +kernel
theorem dX6_copy_58 : decode cX6_copy 58 = .ok (.aload 7, 2) := by decide +kernel
theorem dX6_copy_60 : decode cX6_copy 60 = .ok (.getfield 251, 3) := by decide +kernel
theorem dX6_copy_63 : decode cX6_copy 63 = .ok (.if_icmp .eq 6, 3) := by decide +kernel
theorem dX6_copy_66 : decode cX6_copy 66 = .ok (.bipush (-12), 2) := by decide +kernel
theorem dX6_copy_68 : decode cX6_copy 68 = .ok (.ireturn, 1) := by decide +kernel
theorem dX6_copy_69 : decode cX6_copy 69 = .ok (.aload 6, 2) := by decide +kernel
theorem dX6_copy_71 : decode cX6_copy 71 = .ok (.iload_n 2, 1) := by decide +kernel
theorem dX6_copy_72 : decode cX6_copy 72 = .ok (.iload 5, 2) := by decide +kernel
theorem dX6_copy_74 : decode cX6_copy 74 = .ok (.invokevirtual 256, 3) := by decide +kernel
theorem dX6_copy_77 : decode cX6_copy 77 = .ok (.ifCond .eq 15, 3) := by decide +kernel
theorem dX6_copy_80 : decode cX6_copy 80 = .ok (.aload 7, 2) := by decide +kernel
theorem dX6_copy_82 : decode cX6_copy 82 = .ok (.iload 4, 2) := by decide +kernel
theorem dX6_copy_84 : decode cX6_copy 84 = .ok (.iload 5, 2) := by decide +kernel
theorem dX6_copy_86 : decode cX6_copy 86 = .ok (.invokevirtual 256, 3) := by decide +kernel
theorem dX6_copy_89 : decode cX6_copy 89 = .ok (.ifCond .ne 6, 3) := by decide +kernel
theorem dX6_copy_92 : decode cX6_copy 92 = .ok (.bipush (-13), 2) := by decide +kernel
theorem dX6_copy_94 : decode cX6_copy 94 = .ok (.ireturn, 1) := by decide +kernel
theorem dX6_copy_95 : decode cX6_copy 95 = .ok (.aload 6, 2) := by decide +kernel
theorem dX6_copy_97 : decode cX6_copy 97 = .ok (.getfield 244, 3) := by decide +kernel
theorem dX6_copy_100 : decode cX6_copy 100 = .ok (.iload_n 2, 1) := by decide +kernel
theorem dX6_copy_101 : decode cX6_copy 101 = .ok (.aload 7, 2) := by decide +kernel
theorem dX6_copy_103 : decode cX6_copy 103 = .ok (.getfield 244, 3) := by decide +kernel
theorem dX6_copy_106 : decode cX6_copy 106 = .ok (.iload 4, 2) := by decide +kernel
theorem dX6_copy_108 : decode cX6_copy 108 = .ok (.iload 5, 2) := by decide +kernel
theorem dX6_copy_110 : decode cX6_copy 110 = .ok (.invokestatic 259, 3) := by decide +kernel
theorem dX6_copy_113 : decode cX6_copy 113 = .ok (.iload 5, 2) := by decide +kernel
theorem dX6_copy_115 : decode cX6_copy 115 = .ok (.ireturn, 1) := by decide +kernel
theorem dX6_within_0 : decode cX6_within 0 = .ok (.iload_n 0, 1) := by decide +kernel
theorem dX6_within_1 : decode cX6_within 1 = .ok (.iload_n 1, 1) := by decide +kernel
theorem dX6_within_2 : decode cX6_within 2 = .ok (.if_icmp .lt 12, 3) := by decide +kernel
theorem dX6_within_5 : decode cX6_within 5 = .ok (.iload_n 0, 1) := by decide +kernel
theorem dX6_within_6 : decode cX6_within 6 = .ok (.iload_n 2, 1) := by decide +kernel
theorem dX6_within_7 : decode cX6_within 7 = .ok (.if_icmp .gt 7, 3) := by decide +kernel
theorem dX6_within_10 : decode cX6_within 10 = .ok (.iconst 1, 1) := by decide +kernel
theorem dX6_within_11 : decode cX6_within 11 = .ok (.goto 4, 3) := by decide +kernel
theorem dX6_within_14 : decode cX6_within 14 = .ok (.iconst 0, 1) := by decide +kernel
theorem dX6_within_15 : decode cX6_within 15 = .ok (.ireturn, 1) := by decide +kernel
theorem dX6_isPace_0 : decode cX6_isPace 0 = .ok (.iload_n 0, 1) := by decide +kernel
theorem dX6_isPace_1 : decode cX6_isPace 1 = .ok (.iconst 0, 1) := by decide +kernel
theorem dX6_isPace_2 : decode cX6_isPace 2 = .ok (.bipush 9, 2) := by decide +kernel
theorem dX6_isPace_4 : decode cX6_isPace 4 = .ok (.invokestatic 59, 3) := by decide +kernel
theorem dX6_isPace_7 : decode cX6_isPace 7 = .ok (.ireturn, 1) := by decide +kernel
theorem dX6_isSheet_0 : decode cX6_isSheet 0 = .ok (.iload_n 0, 1) := by decide +kernel
theorem dX6_isSheet_1 : decode cX6_isSheet 1 = .ok (.iconst 0, 1) := by decide +kernel
theorem dX6_isSheet_2 : decode cX6_isSheet 2 = .ok (.iconst 3, 1) := by decide +kernel
theorem dX6_isSheet_3 : decode cX6_isSheet 3 = .ok (.invokestatic 59, 3) := by decide +kernel
theorem dX6_isSheet_6 : decode cX6_isSheet 6 = .ok (.ireturn, 1) := by decide +kernel
theorem dX6_byteOf_0 : decode cX6_byteOf 0 = .ok (.lload_n 0, 1) := by decide +kernel
theorem dX6_byteOf_1 : decode cX6_byteOf 1 = .ok (.bipush 8, 2) := by decide +kernel
theorem dX6_byteOf_3 : decode cX6_byteOf 3 = .ok (.iload_n 2, 1) := by decide +kernel
theorem dX6_byteOf_4 : decode cX6_byteOf 4 = .ok (.imul, 1) := by decide +kernel
theorem dX6_byteOf_5 : decode cX6_byteOf 5 = .ok (.lushr, 1) := by decide +kernel
theorem dX6_byteOf_6 : decode cX6_byteOf 6 = .ok (.l2i, 1) := by decide +kernel
theorem dX6_byteOf_7 : decode cX6_byteOf 7 = .ok (.sipush 255, 3) := by decide +kernel
theorem dX6_byteOf_10 : decode cX6_byteOf 10 = .ok (.iand, 1) := by decide +kernel
theorem dX6_byteOf_11 : decode cX6_byteOf 11 = .ok (.ireturn, 1) := by decide +kernel
theorem dX6_isCell_0 : decode cX6_isCell 0 = .ok (.iload_n 1, 1) := by decide +kernel
theorem dX6_isCell_1 : decode cX6_isCell 1 = .ok (.iconst 0, 1) := by decide +kernel
theorem dX6_isCell_2 : decode cX6_isCell 2 = .ok (.aload_n 0, 1) := by decide +kernel
theorem dX6_isCell_3 : decode cX6_isCell 3 = .ok (.getfield 47, 3) := by decide +kernel
theorem dX6_isCell_6 : decode cX6_isCell 6 = .ok (.getfield 76, 3) := by decide +kernel
theorem dX6_isCell_9 : decode cX6_isCell 9 = .ok (.iconst 1, 1) := by decide +kernel
theorem dX6_isCell_10 : decode cX6_isCell 10 = .ok (.isub, 1) := by decide +kernel
theorem dX6_isCell_11 : decode cX6_isCell 11 = .ok (.invokestatic 59, 3) := by decide +kernel
theorem dX6_isCell_14 : decode cX6_isCell 14 = .ok (.ireturn, 1) := by decide +kernel
theorem dX6_isCar_0 : decode cX6_isCar 0 = .ok (.iload_n 1, 1) := by decide +kernel
theorem dX6_isCar_1 : decode cX6_isCar 1 = .ok (.iconst 0, 1) := by decide +kernel
theorem dX6_isCar_2 : decode cX6_isCar 2 = .ok (.aload_n 0, 1) := by decide +kernel
theorem dX6_isCar_3 : decode cX6_isCar 3 = .ok (.getfield 47, 3) := by decide +kernel
theorem dX6_isCar_6 : decode cX6_isCar 6 = .ok (.getfield 67, 3) := by decide +kernel
theorem dX6_isCar_9 : decode cX6_isCar 9 = .ok (.iconst 1, 1) := by decide +kernel
theorem dX6_isCar_10 : decode cX6_isCar 10 = .ok (.isub, 1) := by decide +kernel
theorem dX6_isCar_11 : decode cX6_isCar 11 = .ok (.invokestatic 59, 3) := by decide +kernel
theorem dX6_isCar_14 : decode cX6_isCar 14 = .ok (.ireturn, 1) := by decide +kernel
theorem dJ6_bitCount_0f7a4_0 : decode cJ6_bitCount_0f7a4 0 = .ok (.iload_n 0, 1) := by decide +kernel
theorem dJ6_bitCount_0f7a4_1 : decode cJ6_bitCount_0f7a4 1 = .ok (.iload_n 0, 1) := by decide +kernel
theorem dJ6_bitCount_0f7a4_2 : decode cJ6_bitCount_0f7a4 2 = .ok (.iconst 1, 1) := by decide +kernel
theorem dJ6_bitCount_0f7a4_3 : decode cJ6_bitCount_0f7a4 3 = .ok (.iushr, 1) := by decide +kernel
theorem dJ6_bitCount_0f7a4_4 : decode cJ6_bitCount_0f7a4 4 = .ok (.ldc_w 265, 3) := by decide +kernel
theorem dJ6_bitCount_0f7a4_7 : decode cJ6_bitCount_0f7a4 7 = .ok (.iand, 1) := by decide +kernel
theorem dJ6_bitCount_0f7a4_8 : decode cJ6_bitCount_0f7a4 8 = .ok (.isub, 1) := by decide +kernel
theorem dJ6_bitCount_0f7a4_9 : decode cJ6_bitCount_0f7a4 9 = .ok (.istore_n 0, 1) := by decide +kernel
theorem dJ6_bitCount_0f7a4_10 : decode cJ6_bitCount_0f7a4 10 = .ok (.iload_n 0, 1) := by decide +kernel
theorem dJ6_bitCount_0f7a4_11 : decode cJ6_bitCount_0f7a4 11 = .ok (.ldc_w 266, 3) := by decide +kernel
theorem dJ6_bitCount_0f7a4_14 : decode cJ6_bitCount_0f7a4 14 = .ok (.iand, 1) := by decide +kernel
theorem dJ6_bitCount_0f7a4_15 : decode cJ6_bitCount_0f7a4 15 = .ok (.iload_n 0, 1) := by decide +kernel
theorem dJ6_bitCount_0f7a4_16 : decode cJ6_bitCount_0f7a4 16 = .ok (.iconst 2, 1) := by decide +kernel
theorem dJ6_bitCount_0f7a4_17 : decode cJ6_bitCount_0f7a4 17 = .ok (.iushr, 1) := by decide +kernel
theorem dJ6_bitCount_0f7a4_18 : decode cJ6_bitCount_0f7a4 18 = .ok (.ldc_w 266, 3) := by decide +kernel
theorem dJ6_bitCount_0f7a4_21 : decode cJ6_bitCount_0f7a4 21 = .ok (.iand, 1) := by decide +kernel
theorem dJ6_bitCount_0f7a4_22 : decode cJ6_bitCount_0f7a4 22 = .ok (.iadd, 1) := by decide +kernel
theorem dJ6_bitCount_0f7a4_23 : decode cJ6_bitCount_0f7a4 23 = .ok (.istore_n 0, 1) := by decide +kernel
theorem dJ6_bitCount_0f7a4_24 : decode cJ6_bitCount_0f7a4 24 = .ok (.iload_n 0, 1) := by decide +kernel
theorem dJ6_bitCount_0f7a4_25 : decode cJ6_bitCount_0f7a4 25 = .ok (.iload_n 0, 1) := by decide +kernel
theorem dJ6_bitCount_0f7a4_26 : decode cJ6_bitCount_0f7a4 26 = .ok (.iconst 4, 1) := by decide +kernel
theorem dJ6_bitCount_0f7a4_27 : decode cJ6_bitCount_0f7a4 27 = .ok (.iushr, 1) := by decide +kernel
theorem dJ6_bitCount_0f7a4_28 : decode cJ6_bitCount_0f7a4 28 = .ok (.iadd, 1) := by decide +kernel
theorem dJ6_bitCount_0f7a4_29 : decode cJ6_bitCount_0f7a4 29 = .ok (.ldc_w 267, 3) := by decide +kernel
theorem dJ6_bitCount_0f7a4_32 : decode cJ6_bitCount_0f7a4 32 = .ok (.iand, 1) := by decide +kernel
theorem dJ6_bitCount_0f7a4_33 : decode cJ6_bitCount_0f7a4 33 = .ok (.istore_n 0, 1) := by decide +kernel
theorem dJ6_bitCount_0f7a4_34 : decode cJ6_bitCount_0f7a4 34 = .ok (.iload_n 0, 1) := by decide +kernel
theorem dJ6_bitCount_0f7a4_35 : decode cJ6_bitCount_0f7a4 35 = .ok (.iload_n 0, 1) := by decide +kernel
theorem dJ6_bitCount_0f7a4_36 : decode cJ6_bitCount_0f7a4 36 = .ok (.bipush 8, 2) := by decide +kernel
theorem dJ6_bitCount_0f7a4_38 : decode cJ6_bitCount_0f7a4 38 = .ok (.iushr, 1) := by decide +kernel
theorem dJ6_bitCount_0f7a4_39 : decode cJ6_bitCount_0f7a4 39 = .ok (.iadd, 1) := by decide +kernel
theorem dJ6_bitCount_0f7a4_40 : decode cJ6_bitCount_0f7a4 40 = .ok (.istore_n 0, 1) := by decide +kernel
theorem dJ6_bitCount_0f7a4_41 : decode cJ6_bitCount_0f7a4 41 = .ok (.iload_n 0, 1) := by decide +kernel
theorem dJ6_bitCount_0f7a4_42 : decode cJ6_bitCount_0f7a4 42 = .ok (.iload_n 0, 1) := by decide +kernel
theorem dJ6_bitCount_0f7a4_43 : decode cJ6_bitCount_0f7a4 43 = .ok (.bipush 16, 2) := by decide +kernel
theorem dJ6_bitCount_0f7a4_45 : decode cJ6_bitCount_0f7a4 45 = .ok (.iushr, 1) := by decide +kernel
theorem dJ6_bitCount_0f7a4_46 : decode cJ6_bitCount_0f7a4 46 = .ok (.iadd, 1) := by decide +kernel
theorem dJ6_bitCount_0f7a4_47 : decode cJ6_bitCount_0f7a4 47 = .ok (.istore_n 0, 1) := by decide +kernel
theorem dJ6_bitCount_0f7a4_48 : decode cJ6_bitCount_0f7a4 48 = .ok (.iload_n 0, 1) := by decide +kernel
theorem dJ6_bitCount_0f7a4_49 : decode cJ6_bitCount_0f7a4 49 = .ok (.bipush 63, 2) := by decide +kernel
theorem dJ6_bitCount_0f7a4_51 : decode cJ6_bitCount_0f7a4 51 = .ok (.iand, 1) := by decide +kernel
theorem dJ6_bitCount_0f7a4_52 : decode cJ6_bitCount_0f7a4 52 = .ok (.ireturn, 1) := by decide +kernel
theorem dJ9_max_7cf53_0 : decode cJ9_max_7cf53 0 = .ok (.iload_n 0, 1) := by decide +kernel
theorem dJ9_max_7cf53_1 : decode cJ9_max_7cf53 1 = .ok (.iload_n 1, 1) := by decide +kernel
theorem dJ9_max_7cf53_2 : decode cJ9_max_7cf53 2 = .ok (.if_icmp .lt 7, 3) := by decide +kernel
theorem dJ9_max_7cf53_5 : decode cJ9_max_7cf53 5 = .ok (.iload_n 0, 1) := by decide +kernel
theorem dJ9_max_7cf53_6 : decode cJ9_max_7cf53 6 = .ok (.goto 4, 3) := by decide +kernel
theorem dJ9_max_7cf53_9 : decode cJ9_max_7cf53 9 = .ok (.iload_n 1, 1) := by decide +kernel
theorem dJ9_max_7cf53_10 : decode cJ9_max_7cf53 10 = .ok (.ireturn, 1) := by decide +kernel
theorem dJ9_min_7cf53_0 : decode cJ9_min_7cf53 0 = .ok (.iload_n 0, 1) := by decide +kernel
theorem dJ9_min_7cf53_1 : decode cJ9_min_7cf53 1 = .ok (.iload_n 1, 1) := by decide +kernel
theorem dJ9_min_7cf53_2 : decode cJ9_min_7cf53 2 = .ok (.if_icmp .gt 7, 3) := by decide +kernel
theorem dJ9_min_7cf53_5 : decode cJ9_min_7cf53 5 = .ok (.iload_n 0, 1) := by decide +kernel
theorem dJ9_min_7cf53_6 : decode cJ9_min_7cf53 6 = .ok (.goto 4, 3) := by decide +kernel
theorem dJ9_min_7cf53_9 : decode cJ9_min_7cf53 9 = .ok (.iload_n 1, 1) := by decide +kernel
theorem dJ9_min_7cf53_10 : decode cJ9_min_7cf53 10 = .ok (.ireturn, 1) := by decide +kernel
theorem dJ7_fill_53178_0 : decode cJ7_fill_53178 0 = .ok (.iconst 0, 1) := by decide +kernel
theorem dJ7_fill_53178_1 : decode cJ7_fill_53178 1 = .ok (.istore_n 2, 1) := by decide +kernel
theorem dJ7_fill_53178_2 : decode cJ7_fill_53178 2 = .ok (.aload_n 0, 1) := by decide +kernel
theorem dJ7_fill_53178_3 : decode cJ7_fill_53178 3 = .ok (.arraylength, 1) := by decide +kernel
theorem dJ7_fill_53178_4 : decode cJ7_fill_53178 4 = .ok (.istore_n 3, 1) := by decide +kernel
theorem dJ7_fill_53178_5 : decode cJ7_fill_53178 5 = .ok (.iload_n 2, 1) := by decide +kernel
theorem dJ7_fill_53178_6 : decode cJ7_fill_53178 6 = .ok (.iload_n 3, 1) := by decide +kernel
theorem dJ7_fill_53178_7 : decode cJ7_fill_53178 7 = .ok (.if_icmp .ge 13, 3) := by decide +kernel
theorem dJ7_fill_53178_10 : decode cJ7_fill_53178 10 = .ok (.aload_n 0, 1) := by decide +kernel
theorem dJ7_fill_53178_11 : decode cJ7_fill_53178 11 = .ok (.iload_n 2, 1) := by decide +kernel
theorem dJ7_fill_53178_12 : decode cJ7_fill_53178 12 = .ok (.iload_n 1, 1) := by decide +kernel
theorem dJ7_fill_53178_13 : decode cJ7_fill_53178 13 = .ok (.iastore, 1) := by decide +kernel
theorem dJ7_fill_53178_14 : decode cJ7_fill_53178 14 = .ok (.iinc 2 1, 3) := by decide +kernel
theorem dJ7_fill_53178_17 : decode cJ7_fill_53178 17 = .ok (.goto (-12), 3) := by decide +kernel
theorem dJ7_fill_53178_20 : decode cJ7_fill_53178 20 = .ok (.return_, 1) := by decide +kernel
theorem dJ7_copyOf_59c91_0 : decode cJ7_copyOf_59c91 0 = .ok (.iload_n 1, 1) := by decide +kernel
theorem dJ7_copyOf_59c91_1 : decode cJ7_copyOf_59c91 1 = .ok (.aload_n 0, 1) := by decide +kernel
theorem dJ7_copyOf_59c91_2 : decode cJ7_copyOf_59c91 2 = .ok (.arraylength, 1) := by decide +kernel
theorem dJ7_copyOf_59c91_3 : decode cJ7_copyOf_59c91 3 = .ok (.if_icmp .ne 11, 3) := by decide +kernel
theorem dJ7_copyOf_59c91_6 : decode cJ7_copyOf_59c91 6 = .ok (.aload_n 0, 1) := by decide +kernel
theorem dJ7_copyOf_59c91_7 : decode cJ7_copyOf_59c91 7 = .ok (.invokevirtual 316, 3) := by decide +kernel
theorem dJ7_copyOf_59c91_10 : decode cJ7_copyOf_59c91 10 = .ok (.checkcast 317, 3) := by decide +kernel
theorem dJ7_copyOf_59c91_13 : decode cJ7_copyOf_59c91 13 = .ok (.areturn, 1) := by decide +kernel
theorem dJ7_copyOf_59c91_14 : decode cJ7_copyOf_59c91 14 = .ok (.iload_n 1, 1) := by decide +kernel
theorem dJ7_copyOf_59c91_15 : decode cJ7_copyOf_59c91 15 = .ok (.newarray .int, 2) := by decide +kernel
theorem dJ7_copyOf_59c91_17 : decode cJ7_copyOf_59c91 17 = .ok (.astore_n 2, 1) := by decide +kernel
theorem dJ7_copyOf_59c91_18 : decode cJ7_copyOf_59c91 18 = .ok (.aload_n 0, 1) := by decide +kernel
theorem dJ7_copyOf_59c91_19 : decode cJ7_copyOf_59c91 19 = .ok (.iconst 0, 1) := by decide +kernel
theorem dJ7_copyOf_59c91_20 : decode cJ7_copyOf_59c91 20 = .ok (.aload_n 2, 1) := by decide +kernel
theorem dJ7_copyOf_59c91_21 : decode cJ7_copyOf_59c91 21 = .ok (.iconst 0, 1) := by decide +kernel
theorem dJ7_copyOf_59c91_22 : decode cJ7_copyOf_59c91 22 = .ok (.aload_n 0, 1) := by decide +kernel
theorem dJ7_copyOf_59c91_23 : decode cJ7_copyOf_59c91 23 = .ok (.arraylength, 1) := by decide +kernel
theorem dJ7_copyOf_59c91_24 : decode cJ7_copyOf_59c91 24 = .ok (.iload_n 1, 1) := by decide +kernel
theorem dJ7_copyOf_59c91_25 : decode cJ7_copyOf_59c91 25 = .ok (.invokestatic 304, 3) := by decide +kernel
theorem dJ7_copyOf_59c91_28 : decode cJ7_copyOf_59c91 28 = .ok (.invokestatic 150, 3) := by decide +kernel
theorem dJ7_copyOf_59c91_31 : decode cJ7_copyOf_59c91 31 = .ok (.aload_n 2, 1) := by decide +kernel
theorem dJ7_copyOf_59c91_32 : decode cJ7_copyOf_59c91 32 = .ok (.areturn, 1) := by decide +kernel
