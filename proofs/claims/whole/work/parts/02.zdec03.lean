theorem dX6_changeLength_40 : decode cX6_changeLength 40 = .ok (.ifCond .le 6, 3) := by decide +kernel
theorem dX6_changeLength_43 : decode cX6_changeLength 43 = .ok (.bipush (-2), 2) := by decide +kernel
theorem dX6_changeLength_45 : decode cX6_changeLength 45 = .ok (.ireturn, 1) := by decide +kernel
theorem dX6_changeLength_46 : decode cX6_changeLength 46 = .ok (.aload_n 0, 1) := by decide +kernel
theorem dX6_changeLength_47 : decode cX6_changeLength 47 = .ok (.getfield 47, 3) := by decide +kernel
theorem dX6_changeLength_50 : decode cX6_changeLength 50 = .ok (.getfield 76, 3) := by decide +kernel
theorem dX6_changeLength_53 : decode cX6_changeLength 53 = .ok (.istore_n 2, 1) := by decide +kernel
theorem dX6_changeLength_54 : decode cX6_changeLength 54 = .ok (.aload_n 0, 1) := by decide +kernel
theorem dX6_changeLength_55 : decode cX6_changeLength 55 = .ok (.getfield 47, 3) := by decide +kernel
theorem dX6_changeLength_58 : decode cX6_changeLength 58 = .ok (.iload_n 1, 1) := by decide +kernel
theorem dX6_changeLength_59 : decode cX6_changeLength 59 = .ok (.putfield 76, 3) := by decide +kernel
theorem dX6_changeLength_62 : decode cX6_changeLength 62 = .ok (.iload_n 2, 1) := by decide +kernel
theorem dX6_changeLength_63 : decode cX6_changeLength 63 = .ok (.ireturn, 1) := by decide +kernel
theorem dX6_car_0 : decode cX6_car 0 = .ok (.iload_n 1, 1) := by decide +kernel
theorem dX6_car_1 : decode cX6_car 1 = .ok (.iconst 0, 1) := by decide +kernel
theorem dX6_car_2 : decode cX6_car 2 = .ok (.iconst 1, 1) := by decide +kernel
theorem dX6_car_3 : decode cX6_car 3 = .ok (.invokestatic 59, 3) := by decide +kernel
theorem dX6_car_6 : decode cX6_car 6 = .ok (.ifCond .eq 18, 3) := by decide +kernel
theorem dX6_car_9 : decode cX6_car 9 = .ok (.aload_n 0, 1) := by decide +kernel
theorem dX6_car_10 : decode cX6_car 10 = .ok (.iload_n 2, 1) := by decide +kernel
theorem dX6_car_11 : decode cX6_car 11 = .ok (.invokevirtual 79, 3) := by decide +kernel
theorem dX6_car_14 : decode cX6_car 14 = .ok (.ifCond .eq 10, 3) := by decide +kernel
theorem dX6_car_17 : decode cX6_car 17 = .ok (.iload_n 3, 1) := by decide +kernel
theorem dX6_car_18 : decode cX6_car 18 = .ok (.invokestatic 83, 3) := by decide +kernel
theorem dX6_car_21 : decode cX6_car 21 = .ok (.ifCond .ne 5, 3) := by decide +kernel
theorem dX6_car_24 : decode cX6_car 24 = .ok (.iconst (-1), 1) := by decide +kernel
theorem dX6_car_25 : decode cX6_car 25 = .ok (.ireturn, 1) := by decide +kernel
theorem dX6_car_26 : decode cX6_car 26 = .ok (.aload_n 0, 1) := by decide +kernel
theorem dX6_car_27 : decode cX6_car 27 = .ok (.getfield 47, 3) := by decide +kernel
theorem dX6_car_30 : decode cX6_car 30 = .ok (.iload_n 1, 1) := by decide +kernel
theorem dX6_car_31 : decode cX6_car 31 = .ok (.iload_n 2, 1) := by decide +kernel
theorem dX6_car_32 : decode cX6_car 32 = .ok (.invokevirtual 86, 3) := by decide +kernel
theorem dX6_car_35 : decode cX6_car 35 = .ok (.ifCond .eq 6, 3) := by decide +kernel
theorem dX6_car_38 : decode cX6_car 38 = .ok (.bipush (-2), 2) := by decide +kernel
theorem dX6_car_40 : decode cX6_car 40 = .ok (.ireturn, 1) := by decide +kernel
theorem dX6_car_41 : decode cX6_car 41 = .ok (.aload_n 0, 1) := by decide +kernel
theorem dX6_car_42 : decode cX6_car 42 = .ok (.getfield 47, 3) := by decide +kernel
theorem dX6_car_45 : decode cX6_car 45 = .ok (.getfield 67, 3) := by decide +kernel
theorem dX6_car_48 : decode cX6_car 48 = .ok (.bipush 12, 2) := by decide +kernel
theorem dX6_car_50 : decode cX6_car 50 = .ok (.if_icmp .lt 8, 3) := by decide +kernel
theorem dX6_car_53 : decode cX6_car 53 = .ok (.bipush (-3), 2) := by decide +kernel
theorem dX6_car_55 : decode cX6_car 55 = .ok (.goto 13, 3) := by decide +kernel
theorem dX6_car_58 : decode cX6_car 58 = .ok (.aload_n 0, 1) := by decide +kernel
theorem dX6_car_59 : decode cX6_car 59 = .ok (.getfield 47, 3) := by decide +kernel
theorem dX6_car_62 : decode cX6_car 62 = .ok (.iload_n 1, 1) := by decide +kernel
theorem dX6_car_63 : decode cX6_car 63 = .ok (.iload_n 2, 1) := by decide +kernel
theorem dX6_car_64 : decode cX6_car 64 = .ok (.iload_n 3, 1) := by decide +kernel
theorem dX6_car_65 : decode cX6_car 65 = .ok (.invokevirtual 90, 3) := by decide +kernel
theorem dX6_car_68 : decode cX6_car 68 = .ok (.ireturn, 1) := by decide +kernel
theorem dX6_evenly_0 : decode cX6_evenly 0 = .ok (.iload_n 1, 1) := by decide +kernel
theorem dX6_evenly_1 : decode cX6_evenly 1 = .ok (.iconst 1, 1) := by decide +kernel
theorem dX6_evenly_2 : decode cX6_evenly 2 = .ok (.bipush 12, 2) := by decide +kernel
theorem dX6_evenly_4 : decode cX6_evenly 4 = .ok (.invokestatic 59, 3) := by decide +kernel
theorem dX6_evenly_7 : decode cX6_evenly 7 = .ok (.ifCond .eq 21, 3) := by decide +kernel
theorem dX6_evenly_10 : decode cX6_evenly 10 = .ok (.iload_n 1, 1) := by decide +kernel
theorem dX6_evenly_11 : decode cX6_evenly 11 = .ok (.aload_n 0, 1) := by decide +kernel
theorem dX6_evenly_12 : decode cX6_evenly 12 = .ok (.getfield 47, 3) := by decide +kernel
theorem dX6_evenly_15 : decode cX6_evenly 15 = .ok (.getfield 76, 3) := by decide +kernel
theorem dX6_evenly_18 : decode cX6_evenly 18 = .ok (.if_icmp .gt 10, 3) := by decide +kernel
theorem dX6_evenly_21 : decode cX6_evenly 21 = .ok (.iload_n 2, 1) := by decide +kernel
theorem dX6_evenly_22 : decode cX6_evenly 22 = .ok (.invokestatic 83, 3) := by decide +kernel
theorem dX6_evenly_25 : decode cX6_evenly 25 = .ok (.ifCond .ne 5, 3) := by decide +kernel
theorem dX6_evenly_28 : decode cX6_evenly 28 = .ok (.iconst (-1), 1) := by decide +kernel
theorem dX6_evenly_29 : decode cX6_evenly 29 = .ok (.ireturn, 1) := by decide +kernel
theorem dX6_evenly_30 : decode cX6_evenly 30 = .ok (.aload_n 0, 1) := by decide +kernel
theorem dX6_evenly_31 : decode cX6_evenly 31 = .ok (.getfield 47, 3) := by decide +kernel
theorem dX6_evenly_34 : decode cX6_evenly 34 = .ok (.iconst 0, 1) := by decide +kernel
theorem dX6_evenly_35 : decode cX6_evenly 35 = .ok (.putfield 67, 3) := by decide +kernel
theorem dX6_evenly_38 : decode cX6_evenly 38 = .ok (.aload_n 0, 1) := by decide +kernel
theorem dX6_evenly_39 : decode cX6_evenly 39 = .ok (.getfield 47, 3) := by decide +kernel
theorem dX6_evenly_42 : decode cX6_evenly 42 = .ok (.bipush (-4), 2) := by decide +kernel
theorem dX6_evenly_44 : decode cX6_evenly 44 = .ok (.putfield 94, 3) := by decide +kernel
theorem dX6_evenly_47 : decode cX6_evenly 47 = .ok (.iconst 0, 1) := by decide +kernel
theorem dX6_evenly_48 : decode cX6_evenly 48 = .ok (.istore_n 3, 1) := by decide +kernel
theorem dX6_evenly_49 : decode cX6_evenly 49 = .ok (.iload_n 3, 1) := by decide +kernel
theorem dX6_evenly_50 : decode cX6_evenly 50 = .ok (.iload_n 1, 1) := by decide +kernel
theorem dX6_evenly_51 : decode cX6_evenly 51 = .ok (.if_icmp .ge 30, 3) := by decide +kernel
theorem dX6_evenly_54 : decode cX6_evenly 54 = .ok (.aload_n 0, 1) := by decide +kernel
theorem dX6_evenly_55 : decode cX6_evenly 55 = .ok (.getfield 47, 3) := by decide +kernel
theorem dX6_evenly_58 : decode cX6_evenly 58 = .ok (.iconst 0, 1) := by decide +kernel
theorem dX6_evenly_59 : decode cX6_evenly 59 = .ok (.iload_n 3, 1) := by decide +kernel
theorem dX6_evenly_60 : decode cX6_evenly 60 = .ok (.aload_n 0, 1) := by decide +kernel
theorem dX6_evenly_61 : decode cX6_evenly 61 = .ok (.getfield 47, 3) := by decide +kernel
theorem dX6_evenly_64 : decode cX6_evenly 64 = .ok (.getfield 76, 3) := by decide +kernel
theorem dX6_evenly_67 : decode cX6_evenly 67 = .ok (.imul, 1) := by decide +kernel
theorem dX6_evenly_68 : decode cX6_evenly 68 = .ok (.iload_n 1, 1) := by decide +kernel
theorem dX6_evenly_69 : decode cX6_evenly 69 = .ok (.idiv, 1) := by decide +kernel
theorem dX6_evenly_70 : decode cX6_evenly 70 = .ok (.iload_n 2, 1) := by decide +kernel
theorem dX6_evenly_71 : decode cX6_evenly 71 = .ok (.invokevirtual 90, 3) := by decide +kernel
theorem dX6_evenly_74 : decode cX6_evenly 74 = .ok (.pop, 1) := by decide +kernel
theorem dX6_evenly_75 : decode cX6_evenly 75 = .ok (.iinc 3 1, 3) := by decide +kernel
theorem dX6_evenly_78 : decode cX6_evenly 78 = .ok (.goto (-29), 3) := by decide +kernel
theorem dX6_evenly_81 : decode cX6_evenly 81 = .ok (.iload_n 1, 1) := by decide +kernel
theorem dX6_evenly_82 : decode cX6_evenly 82 = .ok (.ireturn, 1) := by decide +kernel
theorem dX6_set_0 : decode cX6_set 0 = .ok (.aload_n 0, 1) := by decide +kernel
theorem dX6_set_1 : decode cX6_set 1 = .ok (.iload_n 1, 1) := by decide +kernel
theorem dX6_set_2 : decode cX6_set 2 = .ok (.invokevirtual 97, 3) := by decide +kernel
theorem dX6_set_5 : decode cX6_set 5 = .ok (.ifCond .ne 5, 3) := by decide +kernel
theorem dX6_set_8 : decode cX6_set 8 = .ok (.iconst (-1), 1) := by decide +kernel
theorem dX6_set_9 : decode cX6_set 9 = .ok (.ireturn, 1) := by decide +kernel
theorem dX6_set_10 : decode cX6_set 10 = .ok (.aload_n 0, 1) := by decide +kernel
theorem dX6_set_11 : decode cX6_set 11 = .ok (.getfield 47, 3) := by decide +kernel
theorem dX6_set_14 : decode cX6_set 14 = .ok (.getfield 100, 3) := by decide +kernel
theorem dX6_set_17 : decode cX6_set 17 = .ok (.iload_n 1, 1) := by decide +kernel
theorem dX6_set_18 : decode cX6_set 18 = .ok (.aaload, 1) := by decide +kernel
theorem dX6_set_19 : decode cX6_set 19 = .ok (.astore 4, 2) := by decide +kernel
theorem dX6_set_21 : decode cX6_set 21 = .ok (.iload_n 2, 1) := by decide +kernel
theorem dX6_set_22 : decode cX6_set 22 = .ok (.ifCond .ne 28, 3) := by decide +kernel
theorem dX6_set_25 : decode cX6_set 25 = .ok (.iload_n 3, 1) := by decide +kernel
theorem dX6_set_26 : decode cX6_set 26 = .ok (.iconst 0, 1) := by decide +kernel
theorem dX6_set_27 : decode cX6_set 27 = .ok (.iconst 2, 1) := by decide +kernel
theorem dX6_set_28 : decode cX6_set 28 = .ok (.invokestatic 59, 3) := by decide +kernel
theorem dX6_set_31 : decode cX6_set 31 = .ok (.ifCond .eq 19, 3) := by decide +kernel
theorem dX6_set_34 : decode cX6_set 34 = .ok (.aload 4, 2) := by decide +kernel
theorem dX6_set_36 : decode cX6_set 36 = .ok (.getfield 104, 3) := by decide +kernel
theorem dX6_set_39 : decode cX6_set 39 = .ok (.istore 5, 2) := by decide +kernel
theorem dX6_set_41 : decode cX6_set 41 = .ok (.aload 4, 2) := by decide +kernel
theorem dX6_set_43 : decode cX6_set 43 = .ok (.iload_n 3, 1) := by decide +kernel
theorem dX6_set_44 : decode cX6_set 44 = .ok (.putfield 104, 3) := by decide +kernel
theorem dX6_set_47 : decode cX6_set 47 = .ok (.iload 5, 2) := by decide +kernel
theorem dX6_set_49 : decode cX6_set 49 = .ok (.ireturn, 1) := by decide +kernel
theorem dX6_set_50 : decode cX6_set 50 = .ok (.iload_n 2, 1) := by decide +kernel
theorem dX6_set_51 : decode cX6_set 51 = .ok (.iconst 1, 1) := by decide +kernel
theorem dX6_set_52 : decode cX6_set 52 = .ok (.if_icmp .ne 28, 3) := by decide +kernel
theorem dX6_set_55 : decode cX6_set 55 = .ok (.iload_n 3, 1) := by decide +kernel
theorem dX6_set_56 : decode cX6_set 56 = .ok (.iconst 0, 1) := by decide +kernel
theorem dX6_set_57 : decode cX6_set 57 = .ok (.iconst 3, 1) := by decide +kernel
theorem dX6_set_58 : decode cX6_set 58 = .ok (.invokestatic 59, 3) := by decide +kernel
theorem dX6_set_61 : decode cX6_set 61 = .ok (.ifCond .eq 19, 3) := by decide +kernel
theorem dX6_set_64 : decode cX6_set 64 = .ok (.aload 4, 2) := by decide +kernel
theorem dX6_set_66 : decode cX6_set 66 = .ok (.getfield 109, 3) := by decide +kernel
theorem dX6_set_69 : decode cX6_set 69 = .ok (.istore 5, 2) := by decide +kernel
theorem dX6_set_71 : decode cX6_set 71 = .ok (.aload 4, 2) := by decide +kernel
theorem dX6_set_73 : decode cX6_set 73 = .ok (.iload_n 3, 1) := by decide +kernel
theorem dX6_set_74 : decode cX6_set 74 = .ok (.putfield 109, 3) := by decide +kernel
theorem dX6_set_77 : decode cX6_set 77 = .ok (.iload 5, 2) := by decide +kernel
theorem dX6_set_79 : decode cX6_set 79 = .ok (.ireturn, 1) := by decide +kernel
theorem dX6_set_80 : decode cX6_set 80 = .ok (.iconst (-1), 1) := by decide +kernel
theorem dX6_set_81 : decode cX6_set 81 = .ok (.ireturn, 1) := by decide +kernel
theorem dX6_told_0 : decode cX6_told 0 = .ok (.aload_n 0, 1) := by decide +kernel
theorem dX6_told_1 : decode cX6_told 1 = .ok (.iload_n 1, 1) := by decide +kernel
theorem dX6_told_2 : decode cX6_told 2 = .ok (.invokevirtual 97, 3) := by decide +kernel
theorem dX6_told_5 : decode cX6_told 5 = .ok (.ifCond .ne 5, 3) := by decide +kernel
theorem dX6_told_8 : decode cX6_told 8 = .ok (.iconst (-1), 1) := by decide +kernel
theorem dX6_told_9 : decode cX6_told 9 = .ok (.ireturn, 1) := by decide +kernel
theorem dX6_told_10 : decode cX6_told 10 = .ok (.aload_n 0, 1) := by decide +kernel
theorem dX6_told_11 : decode cX6_told 11 = .ok (.getfield 47, 3) := by decide +kernel
theorem dX6_told_14 : decode cX6_told 14 = .ok (.iload_n 1, 1) := by decide +kernel
theorem dX6_told_15 : decode cX6_told 15 = .ok (.invokevirtual 112, 3) := by decide +kernel
theorem dX6_told_18 : decode cX6_told 18 = .ok (.aload_n 0, 1) := by decide +kernel
theorem dX6_told_19 : decode cX6_told 19 = .ok (.getfield 47, 3) := by decide +kernel
theorem dX6_told_22 : decode cX6_told 22 = .ok (.getfield 100, 3) := by decide +kernel
theorem dX6_told_25 : decode cX6_told 25 = .ok (.iload_n 1, 1) := by decide +kernel
theorem dX6_told_26 : decode cX6_told 26 = .ok (.aaload, 1) := by decide +kernel
theorem dX6_told_27 : decode cX6_told 27 = .ok (.astore_n 3, 1) := by decide +kernel
theorem dX6_told_28 : decode cX6_told 28 = .ok (.iload_n 2, 1) := by decide +kernel
theorem dX6_told_29 : decode cX6_told 29 = .ok (.tableswitch 87 0 7 #[47, 52, 57, 62, 67, 72, 77, 82], 47) := by decide +kernel
theorem dX6_told_76 : decode cX6_told 76 = .ok (.aload_n 3, 1) := by decide +kernel
theorem dX6_told_77 : decode cX6_told 77 = .ok (.getfield 116, 3) := by decide +kernel
theorem dX6_told_80 : decode cX6_told 80 = .ok (.ireturn, 1) := by decide +kernel
theorem dX6_told_81 : decode cX6_told 81 = .ok (.aload_n 3, 1) := by decide +kernel
theorem dX6_told_82 : decode cX6_told 82 = .ok (.getfield 119, 3) := by decide +kernel
theorem dX6_told_85 : decode cX6_told 85 = .ok (.ireturn, 1) := by decide +kernel
theorem dX6_told_86 : decode cX6_told 86 = .ok (.aload_n 3, 1) := by decide +kernel
theorem dX6_told_87 : decode cX6_told 87 = .ok (.getfield 122, 3) := by decide +kernel
theorem dX6_told_90 : decode cX6_told 90 = .ok (.ireturn, 1) := by decide +kernel
theorem dX6_told_91 : decode cX6_told 91 = .ok (.aload_n 3, 1) := by decide +kernel
theorem dX6_told_92 : decode cX6_told 92 = .ok (.getfield 125, 3) := by decide +kernel
theorem dX6_told_95 : decode cX6_told 95 = .ok (.ireturn, 1) := by decide +kernel
theorem dX6_told_96 : decode cX6_told 96 = .ok (.aload_n 3, 1) := by decide +kernel
theorem dX6_told_97 : decode cX6_told 97 = .ok (.getfield 128, 3) := by decide +kernel
theorem dX6_told_100 : decode cX6_told 100 = .ok (.ireturn, 1) := by decide +kernel
theorem dX6_told_101 : decode cX6_told 101 = .ok (.aload_n 3, 1) := by decide +kernel
theorem dX6_told_102 : decode cX6_told 102 = .ok (.getfield 131, 3) := by decide +kernel
theorem dX6_told_105 : decode cX6_told 105 = .ok (.ireturn, 1) := by decide +kernel
theorem dX6_told_106 : decode cX6_told 106 = .ok (.aload_n 3, 1) := by decide +kernel
theorem dX6_told_107 : decode cX6_told 107 = .ok (.getfield 134, 3) := by decide +kernel
theorem dX6_told_110 : decode cX6_told 110 = .ok (.ireturn, 1) := by decide +kernel
theorem dX6_told_111 : decode cX6_told 111 = .ok (.aload_n 3, 1) := by decide +kernel
theorem dX6_told_112 : decode cX6_told 112 = .ok (.getfield 137, 3) := by decide +kernel
theorem dX6_told_115 : decode cX6_told 115 = .ok (.ireturn, 1) := by decide +kernel
theorem dX6_told_116 : decode cX6_told 116 = .ok (.iconst (-1), 1) := by decide +kernel
theorem dX6_told_117 : decode cX6_told 117 = .ok (.ireturn, 1) := by decide +kernel
theorem dX6_type_0 : decode cX6_type 0 = .ok (.iload_n 3, 1) := by decide +kernel
theorem dX6_type_1 : decode cX6_type 1 = .ok (.iconst 1, 1) := by decide +kernel
theorem dX6_type_2 : decode cX6_type 2 = .ok (.bipush 8, 2) := by decide +kernel
theorem dX6_type_4 : decode cX6_type 4 = .ok (.invokestatic 59, 3) := by decide +kernel
theorem dX6_type_7 : decode cX6_type 7 = .ok (.ifCond .ne 5, 3) := by decide +kernel
theorem dX6_type_10 : decode cX6_type 10 = .ok (.iconst (-1), 1) := by decide +kernel
theorem dX6_type_11 : decode cX6_type 11 = .ok (.ireturn, 1) := by decide +kernel
theorem dX6_type_12 : decode cX6_type 12 = .ok (.iconst 0, 1) := by decide +kernel
theorem dX6_type_13 : decode cX6_type 13 = .ok (.istore 4, 2) := by decide +kernel
theorem dX6_type_15 : decode cX6_type 15 = .ok (.iload 4, 2) := by decide +kernel
theorem dX6_type_17 : decode cX6_type 17 = .ok (.iload_n 3, 1) := by decide +kernel
theorem dX6_type_18 : decode cX6_type 18 = .ok (.if_icmp .ge 27, 3) := by decide +kernel
theorem dX6_type_21 : decode cX6_type 21 = .ok (.lload_n 1, 1) := by decide +kernel
theorem dX6_type_22 : decode cX6_type 22 = .ok (.iload 4, 2) := by decide +kernel
theorem dX6_type_24 : decode cX6_type 24 = .ok (.invokestatic 140, 3) := by decide +kernel
theorem dX6_type_27 : decode cX6_type 27 = .ok (.bipush 32, 2) := by decide +kernel
theorem dX6_type_29 : decode cX6_type 29 = .ok (.bipush 126, 2) := by decide +kernel
theorem dX6_type_31 : decode cX6_type 31 = .ok (.invokestatic 59, 3) := by decide +kernel
theorem dX6_type_34 : decode cX6_type 34 = .ok (.ifCond .ne 5, 3) := by decide +kernel
theorem dX6_type_37 : decode cX6_type 37 = .ok (.iconst (-1), 1) := by decide +kernel
theorem dX6_type_38 : decode cX6_type 38 = .ok (.ireturn, 1) := by decide +kernel
theorem dX6_type_39 : decode cX6_type 39 = .ok (.iinc 4 1, 3) := by decide +kernel
theorem dX6_type_42 : decode cX6_type 42 = .ok (.goto (-27), 3) := by decide +kernel
theorem dX6_type_45 : decode cX6_type 45 = .ok (.aload_n 0, 1) := by decide +kernel
theorem dX6_type_46 : decode cX6_type 46 = .ok (.getfield 40, 3) := by decide +kernel
theorem dX6_type_49 : decode cX6_type 49 = .ok (.getfield 144, 3) := by decide +kernel
theorem dX6_type_52 : decode cX6_type 52 = .ok (.iload_n 3, 1) := by decide +kernel
theorem dX6_type_53 : decode cX6_type 53 = .ok (.iadd, 1) := by decide +kernel
theorem dX6_type_54 : decode cX6_type 54 = .ok (.bipush 100, 2) := by decide +kernel
theorem dX6_type_56 : decode cX6_type 56 = .ok (.if_icmp .le 6, 3) := by decide +kernel
theorem dX6_type_59 : decode cX6_type 59 = .ok (.bipush (-3), 2) := by decide +kernel
theorem dX6_type_61 : decode cX6_type 61 = .ok (.ireturn, 1) := by decide +kernel
theorem dX6_type_62 : decode cX6_type 62 = .ok (.iload_n 3, 1) := by decide +kernel
theorem dX6_type_63 : decode cX6_type 63 = .ok (.iconst 1, 1) := by decide +kernel
theorem dX6_type_64 : decode cX6_type 64 = .ok (.isub, 1) := by decide +kernel
theorem dX6_type_65 : decode cX6_type 65 = .ok (.istore 4, 2) := by decide +kernel
theorem dX6_type_67 : decode cX6_type 67 = .ok (.iload 4, 2) := by decide +kernel
theorem dX6_type_69 : decode cX6_type 69 = .ok (.ifCond .lt 22, 3) := by decide +kernel
theorem dX6_type_72 : decode cX6_type 72 = .ok (.aload_n 0, 1) := by decide +kernel
theorem dX6_type_73 : decode cX6_type 73 = .ok (.getfield 40, 3) := by decide +kernel
theorem dX6_type_76 : decode cX6_type 76 = .ok (.lload_n 1, 1) := by decide +kernel
theorem dX6_type_77 : decode cX6_type 77 = .ok (.iload 4, 2) := by decide +kernel
theorem dX6_type_79 : decode cX6_type 79 = .ok (.invokestatic 140, 3) := by decide +kernel
theorem dX6_type_82 : decode cX6_type 82 = .ok (.invokevirtual 147, 3) := by decide +kernel
theorem dX6_type_85 : decode cX6_type 85 = .ok (.iinc 4 (-1), 3) := by decide +kernel
theorem dX6_type_88 : decode cX6_type 88 = .ok (.goto (-21), 3) := by decide +kernel
theorem dX6_type_91 : decode cX6_type 91 = .ok (.aload_n 0, 1) := by decide +kernel
theorem dX6_type_92 : decode cX6_type 92 = .ok (.getfield 40, 3) := by decide +kernel
theorem dX6_type_95 : decode cX6_type 95 = .ok (.getfield 144, 3) := by decide +kernel
theorem dX6_type_98 : decode cX6_type 98 = .ok (.ireturn, 1) := by decide +kernel
theorem dX6_habit_0 : decode cX6_habit 0 = .ok (.iload_n 1, 1) := by decide +kernel
theorem dX6_habit_1 : decode cX6_habit 1 = .ok (.iconst 0, 1) := by decide +kernel
theorem dX6_habit_2 : decode cX6_habit 2 = .ok (.iconst 2, 1) := by decide +kernel
theorem dX6_habit_3 : decode cX6_habit 3 = .ok (.invokestatic 59, 3) := by decide +kernel
theorem dX6_habit_6 : decode cX6_habit 6 = .ok (.ifCond .ne 5, 3) := by decide +kernel
theorem dX6_habit_9 : decode cX6_habit 9 = .ok (.iconst (-1), 1) := by decide +kernel
theorem dX6_habit_10 : decode cX6_habit 10 = .ok (.ireturn, 1) := by decide +kernel
theorem dX6_habit_11 : decode cX6_habit 11 = .ok (.aload_n 0, 1) := by decide +kernel
theorem dX6_habit_12 : decode cX6_habit 12 = .ok (.getfield 40, 3) := by decide +kernel
theorem dX6_habit_15 : decode cX6_habit 15 = .ok (.invokevirtual 150, 3) := by decide +kernel
theorem dX6_habit_18 : decode cX6_habit 18 = .ok (.istore_n 2, 1) := by decide +kernel
theorem dX6_habit_19 : decode cX6_habit 19 = .ok (.aload_n 0, 1) := by decide +kernel
theorem dX6_habit_20 : decode cX6_habit 20 = .ok (.getfield 40, 3) := by decide +kernel
theorem dX6_habit_23 : decode cX6_habit 23 = .ok (.iconst 0, 1) := by decide +kernel
theorem dX6_habit_24 : decode cX6_habit 24 = .ok (.putfield 144, 3) := by decide +kernel
theorem dX6_habit_27 : decode cX6_habit 27 = .ok (.iload_n 2, 1) := by decide +kernel
theorem dX6_habit_28 : decode cX6_habit 28 = .ok (.ifCond .ne 14, 3) := by decide +kernel
theorem dX6_habit_31 : decode cX6_habit 31 = .ok (.bipush (-20), 2) := by decide +kernel
theorem dX6_habit_33 : decode cX6_habit 33 = .ok (.aload_n 0, 1) := by decide +kernel
theorem dX6_habit_34 : decode cX6_habit 34 = .ok (.getfield 40, 3) := by decide +kernel
theorem dX6_habit_37 : decode cX6_habit 37 = .ok (.getfield 154, 3) := by decide +kernel
theorem dX6_habit_40 : decode cX6_habit 40 = .ok (.isub, 1) := by decide +kernel
theorem dX6_habit_41 : decode cX6_habit 41 = .ok (.ireturn, 1) := by decide +kernel
theorem dX6_habit_42 : decode cX6_habit 42 = .ok (.aload_n 0, 1) := by decide +kernel
theorem dX6_habit_43 : decode cX6_habit 43 = .ok (.getfield 47, 3) := by decide +kernel
theorem dX6_habit_46 : decode cX6_habit 46 = .ok (.getfield 157, 3) := by decide +kernel
theorem dX6_habit_49 : decode cX6_habit 49 = .ok (.iload_n 1, 1) := by decide +kernel
theorem dX6_habit_50 : decode cX6_habit 50 = .ok (.new 35, 3) := by decide +kernel
theorem dX6_habit_53 : decode cX6_habit 53 = .ok (.dup, 1) := by decide +kernel
theorem dX6_habit_54 : decode cX6_habit 54 = .ok (.aload_n 0, 1) := by decide +kernel
theorem dX6_habit_55 : decode cX6_habit 55 = .ok (.getfield 40, 3) := by decide +kernel
theorem dX6_habit_58 : decode cX6_habit 58 = .ok (.invokespecial 37, 3) := by decide +kernel
theorem dX6_habit_61 : decode cX6_habit 61 = .ok (.aastore, 1) := by decide +kernel
theorem dX6_habit_62 : decode cX6_habit 62 = .ok (.aload_n 0, 1) := by decide +kernel
theorem dX6_habit_63 : decode cX6_habit 63 = .ok (.getfield 40, 3) := by decide +kernel
theorem dX6_habit_66 : decode cX6_habit 66 = .ok (.getfield 161, 3) := by decide +kernel
theorem dX6_habit_69 : decode cX6_habit 69 = .ok (.ireturn, 1) := by decide +kernel
theorem dX6_holds_0 : decode cX6_holds 0 = .ok (.aload_n 0, 1) := by decide +kernel
theorem dX6_holds_1 : decode cX6_holds 1 = .ok (.iload_n 1, 1) := by decide +kernel
theorem dX6_holds_2 : decode cX6_holds 2 = .ok (.invokevirtual 97, 3) := by decide +kernel
theorem dX6_holds_5 : decode cX6_holds 5 = .ok (.ifCond .ne 5, 3) := by decide +kernel
theorem dX6_holds_8 : decode cX6_holds 8 = .ok (.iconst (-1), 1) := by decide +kernel
theorem dX6_holds_9 : decode cX6_holds 9 = .ok (.ireturn, 1) := by decide +kernel
theorem dX6_holds_10 : decode cX6_holds 10 = .ok (.aload_n 0, 1) := by decide +kernel
theorem dX6_holds_11 : decode cX6_holds 11 = .ok (.getfield 47, 3) := by decide +kernel
theorem dX6_holds_14 : decode cX6_holds 14 = .ok (.iload_n 1, 1) := by decide +kernel
theorem dX6_holds_15 : decode cX6_holds 15 = .ok (.invokevirtual 112, 3) := by decide +kernel
theorem dX6_holds_18 : decode cX6_holds 18 = .ok (.aload_n 0, 1) := by decide +kernel
theorem dX6_holds_19 : decode cX6_holds 19 = .ok (.getfield 47, 3) := by decide +kernel
theorem dX6_holds_22 : decode cX6_holds 22 = .ok (.getfield 100, 3) := by decide +kernel
theorem dX6_holds_25 : decode cX6_holds 25 = .ok (.iload_n 1, 1) := by decide +kernel
theorem dX6_holds_26 : decode cX6_holds 26 = .ok (.aaload, 1) := by decide +kernel
theorem dX6_holds_27 : decode cX6_holds 27 = .ok (.astore_n 2, 1) := by decide +kernel
theorem dX6_holds_28 : decode cX6_holds 28 = .ok (.aload_n 0, 1) := by decide +kernel
theorem dX6_holds_29 : decode cX6_holds 29 = .ok (.getfield 47, 3) := by decide +kernel
theorem dX6_holds_32 : decode cX6_holds 32 = .ok (.getfield 157, 3) := by decide +kernel
theorem dX6_holds_35 : decode cX6_holds 35 = .ok (.aload_n 2, 1) := by decide +kernel
theorem dX6_holds_36 : decode cX6_holds 36 = .ok (.getfield 104, 3) := by decide +kernel
theorem dX6_holds_39 : decode cX6_holds 39 = .ok (.aaload, 1) := by decide +kernel
theorem dX6_holds_40 : decode cX6_holds 40 = .ok (.aload_n 2, 1) := by decide +kernel
theorem dX6_holds_41 : decode cX6_holds 41 = .ok (.getfield 125, 3) := by decide +kernel
theorem dX6_holds_44 : decode cX6_holds 44 = .ok (.aload_n 2, 1) := by decide +kernel
theorem dX6_holds_45 : decode cX6_holds 45 = .ok (.getfield 164, 3) := by decide +kernel
theorem dX6_holds_48 : decode cX6_holds 48 = .ok (.aload_n 2, 1) := by decide +kernel
theorem dX6_holds_49 : decode cX6_holds 49 = .ok (.getfield 131, 3) := by decide +kernel
theorem dX6_holds_52 : decode cX6_holds 52 = .ok (.aload_n 2, 1) := by decide +kernel
theorem dX6_holds_53 : decode cX6_holds 53 = .ok (.getfield 122, 3) := by decide +kernel
theorem dX6_holds_56 : decode cX6_holds 56 = .ok (.invokevirtual 167, 3) := by decide +kernel
theorem dX6_holds_59 : decode cX6_holds 59 = .ok (.ireturn, 1) := by decide +kernel
theorem dX6_board_0 : decode cX6_board 0 = .ok (.aload_n 0, 1) := by decide +kernel
theorem dX6_board_1 : decode cX6_board 1 = .ok (.iload_n 1, 1) := by decide +kernel
theorem dX6_board_2 : decode cX6_board 2 = .ok (.invokevirtual 79, 3) := by decide +kernel
theorem dX6_board_5 : decode cX6_board 5 = .ok (.ifCond .eq 18, 3) := by decide +kernel
theorem dX6_board_8 : decode cX6_board 8 = .ok (.aload_n 0, 1) := by decide +kernel
theorem dX6_board_9 : decode cX6_board 9 = .ok (.iload_n 2, 1) := by decide +kernel
theorem dX6_board_10 : decode cX6_board 10 = .ok (.invokevirtual 79, 3) := by decide +kernel
theorem dX6_board_13 : decode cX6_board 13 = .ok (.ifCond .eq 10, 3) := by decide +kernel
theorem dX6_board_16 : decode cX6_board 16 = .ok (.iload_n 3, 1) := by decide +kernel
theorem dX6_board_17 : decode cX6_board 17 = .ok (.invokestatic 83, 3) := by decide +kernel
theorem dX6_board_20 : decode cX6_board 20 = .ok (.ifCond .ne 5, 3) := by decide +kernel
theorem dX6_board_23 : decode cX6_board 23 = .ok (.iconst (-1), 1) := by decide +kernel
theorem dX6_board_24 : decode cX6_board 24 = .ok (.ireturn, 1) := by decide +kernel
theorem dX6_board_25 : decode cX6_board 25 = .ok (.aload_n 0, 1) := by decide +kernel
theorem dX6_board_26 : decode cX6_board 26 = .ok (.getfield 47, 3) := by decide +kernel
theorem dX6_board_29 : decode cX6_board 29 = .ok (.getfield 70, 3) := by decide +kernel
theorem dX6_board_32 : decode cX6_board 32 = .ok (.iconst 4, 1) := by decide +kernel
theorem dX6_board_33 : decode cX6_board 33 = .ok (.if_icmp .lt 8, 3) := by decide +kernel
theorem dX6_board_36 : decode cX6_board 36 = .ok (.bipush (-3), 2) := by decide +kernel
theorem dX6_board_38 : decode cX6_board 38 = .ok (.goto 13, 3) := by decide +kernel
theorem dX6_board_41 : decode cX6_board 41 = .ok (.aload_n 0, 1) := by decide +kernel
theorem dX6_board_42 : decode cX6_board 42 = .ok (.getfield 47, 3) := by decide +kernel
theorem dX6_board_45 : decode cX6_board 45 = .ok (.iload_n 1, 1) := by decide +kernel
theorem dX6_board_46 : decode cX6_board 46 = .ok (.iload_n 2, 1) := by decide +kernel
theorem dX6_board_47 : decode cX6_board 47 = .ok (.iload_n 3, 1) := by decide +kernel
theorem dX6_board_48 : decode cX6_board 48 = .ok (.invokevirtual 171, 3) := by decide +kernel
theorem dX6_board_51 : decode cX6_board 51 = .ok (.ireturn, 1) := by decide +kernel
theorem dX6_loop_0 : decode cX6_loop 0 = .ok (.aload_n 0, 1) := by decide +kernel
theorem dX6_loop_1 : decode cX6_loop 1 = .ok (.iload_n 1, 1) := by decide +kernel
theorem dX6_loop_2 : decode cX6_loop 2 = .ok (.invokevirtual 79, 3) := by decide +kernel
theorem dX6_loop_5 : decode cX6_loop 5 = .ok (.ifCond .ne 5, 3) := by decide +kernel
theorem dX6_loop_8 : decode cX6_loop 8 = .ok (.iconst (-1), 1) := by decide +kernel
theorem dX6_loop_9 : decode cX6_loop 9 = .ok (.ireturn, 1) := by decide +kernel
theorem dX6_loop_10 : decode cX6_loop 10 = .ok (.aload_n 0, 1) := by decide +kernel
theorem dX6_loop_11 : decode cX6_loop 11 = .ok (.getfield 47, 3) := by decide +kernel
theorem dX6_loop_14 : decode cX6_loop 14 = .ok (.getfield 73, 3) := by decide +kernel
theorem dX6_loop_17 : decode cX6_loop 17 = .ok (.iconst 4, 1) := by decide +kernel
theorem dX6_loop_18 : decode cX6_loop 18 = .ok (.if_icmp .lt 8, 3) := by decide +kernel
theorem dX6_loop_21 : decode cX6_loop 21 = .ok (.bipush (-3), 2) := by decide +kernel
theorem dX6_loop_23 : decode cX6_loop 23 = .ok (.goto 11, 3) := by decide +kernel
theorem dX6_loop_26 : decode cX6_loop 26 = .ok (.aload_n 0, 1) := by decide +kernel
theorem dX6_loop_27 : decode cX6_loop 27 = .ok (.getfield 47, 3) := by decide +kernel
theorem dX6_loop_30 : decode cX6_loop 30 = .ok (.iload_n 1, 1) := by decide +kernel
theorem dX6_loop_31 : decode cX6_loop 31 = .ok (.invokevirtual 174, 3) := by decide +kernel
theorem dX6_loop_34 : decode cX6_loop 34 = .ok (.ireturn, 1) := by decide +kernel
theorem dX6_looped_0 : decode cX6_looped 0 = .ok (.iload_n 1, 1) := by decide +kernel
theorem dX6_looped_1 : decode cX6_looped 1 = .ok (.ifCond .lt 23, 3) := by decide +kernel
theorem dX6_looped_4 : decode cX6_looped 4 = .ok (.iload_n 1, 1) := by decide +kernel
theorem dX6_looped_5 : decode cX6_looped 5 = .ok (.aload_n 0, 1) := by decide +kernel
theorem dX6_looped_6 : decode cX6_looped 6 = .ok (.getfield 47, 3) := by decide +kernel
theorem dX6_looped_9 : decode cX6_looped 9 = .ok (.getfield 73, 3) := by decide +kernel
theorem dX6_looped_12 : decode cX6_looped 12 = .ok (.if_icmp .ge 12, 3) := by decide +kernel
theorem dX6_looped_15 : decode cX6_looped 15 = .ok (.iload_n 2, 1) := by decide +kernel
theorem dX6_looped_16 : decode cX6_looped 16 = .ok (.iconst 0, 1) := by decide +kernel
theorem dX6_looped_17 : decode cX6_looped 17 = .ok (.iconst 1, 1) := by decide +kernel
theorem dX6_looped_18 : decode cX6_looped 18 = .ok (.invokestatic 59, 3) := by decide +kernel
theorem dX6_looped_21 : decode cX6_looped 21 = .ok (.ifCond .ne 5, 3) := by decide +kernel
theorem dX6_looped_24 : decode cX6_looped 24 = .ok (.iconst (-1), 1) := by decide +kernel
theorem dX6_looped_25 : decode cX6_looped 25 = .ok (.ireturn, 1) := by decide +kernel
theorem dX6_looped_26 : decode cX6_looped 26 = .ok (.iload_n 2, 1) := by decide +kernel
theorem dX6_looped_27 : decode cX6_looped 27 = .ok (.ifCond .ne 15, 3) := by decide +kernel
theorem dX6_looped_30 : decode cX6_looped 30 = .ok (.aload_n 0, 1) := by decide +kernel
theorem dX6_looped_31 : decode cX6_looped 31 = .ok (.getfield 47, 3) := by decide +kernel
theorem dX6_looped_34 : decode cX6_looped 34 = .ok (.getfield 177, 3) := by decide +kernel
theorem dX6_looped_37 : decode cX6_looped 37 = .ok (.iload_n 1, 1) := by decide +kernel
theorem dX6_looped_38 : decode cX6_looped 38 = .ok (.iaload, 1) := by decide +kernel
theorem dX6_looped_39 : decode cX6_looped 39 = .ok (.goto 12, 3) := by decide +kernel
theorem dX6_looped_42 : decode cX6_looped 42 = .ok (.aload_n 0, 1) := by decide +kernel
theorem dX6_looped_43 : decode cX6_looped 43 = .ok (.getfield 47, 3) := by decide +kernel
theorem dX6_looped_46 : decode cX6_looped 46 = .ok (.getfield 181, 3) := by decide +kernel
theorem dX6_looped_49 : decode cX6_looped 49 = .ok (.iload_n 1, 1) := by decide +kernel
theorem dX6_looped_50 : decode cX6_looped 50 = .ok (.iaload, 1) := by decide +kernel
theorem dX6_looped_51 : decode cX6_looped 51 = .ok (.ireturn, 1) := by decide +kernel
theorem dX6_tap_0 : decode cX6_tap 0 = .ok (.aload_n 0, 1) := by decide +kernel
theorem dX6_tap_1 : decode cX6_tap 1 = .ok (.iload_n 1, 1) := by decide +kernel
theorem dX6_tap_2 : decode cX6_tap 2 = .ok (.invokevirtual 97, 3) := by decide +kernel
theorem dX6_tap_5 : decode cX6_tap 5 = .ok (.ifCond .ne 5, 3) := by decide +kernel
theorem dX6_tap_8 : decode cX6_tap 8 = .ok (.iconst (-1), 1) := by decide +kernel
theorem dX6_tap_9 : decode cX6_tap 9 = .ok (.ireturn, 1) := by decide +kernel
theorem dX6_tap_10 : decode cX6_tap 10 = .ok (.aload_n 0, 1) := by decide +kernel
theorem dX6_tap_11 : decode cX6_tap 11 = .ok (.getfield 47, 3) := by decide +kernel
theorem dX6_tap_14 : decode cX6_tap 14 = .ok (.getfield 100, 3) := by decide +kernel
theorem dX6_tap_17 : decode cX6_tap 17 = .ok (.iload_n 1, 1) := by decide +kernel
theorem dX6_tap_18 : decode cX6_tap 18 = .ok (.aaload, 1) := by decide +kernel
theorem dX6_tap_19 : decode cX6_tap 19 = .ok (.getfield 184, 3) := by decide +kernel
theorem dX6_tap_22 : decode cX6_tap 22 = .ok (.istore_n 2, 1) := by decide +kernel
theorem dX6_tap_23 : decode cX6_tap 23 = .ok (.aload_n 0, 1) := by decide +kernel
theorem dX6_tap_24 : decode cX6_tap 24 = .ok (.getfield 47, 3) := by decide +kernel
theorem dX6_tap_27 : decode cX6_tap 27 = .ok (.getfield 100, 3) := by decide +kernel
theorem dX6_tap_30 : decode cX6_tap 30 = .ok (.iload_n 1, 1) := by decide +kernel
theorem dX6_tap_31 : decode cX6_tap 31 = .ok (.aaload, 1) := by decide +kernel
theorem dX6_tap_32 : decode cX6_tap 32 = .ok (.iconst 1, 1) := by decide +kernel
theorem dX6_tap_33 : decode cX6_tap 33 = .ok (.putfield 184, 3) := by decide +kernel
theorem dX6_tap_36 : decode cX6_tap 36 = .ok (.iload_n 2, 1) := by decide +kernel
theorem dX6_tap_37 : decode cX6_tap 37 = .ok (.ifCond .eq 7, 3) := by decide +kernel
theorem dX6_tap_40 : decode cX6_tap 40 = .ok (.iconst 1, 1) := by decide +kernel
theorem dX6_tap_41 : decode cX6_tap 41 = .ok (.goto 4, 3) := by decide +kernel
theorem dX6_tap_44 : decode cX6_tap 44 = .ok (.iconst 0, 1) := by decide +kernel
theorem dX6_tap_45 : decode cX6_tap 45 = .ok (.ireturn, 1) := by decide +kernel
theorem dX6_ticks_0 : decode cX6_ticks 0 = .ok (.iload_n 1, 1) := by decide +kernel
theorem dX6_ticks_1 : decode cX6_ticks 1 = .ok (.iconst 1, 1) := by decide +kernel
theorem dX6_ticks_2 : decode cX6_ticks 2 = .ok (.sipush 200, 3) := by decide +kernel
theorem dX6_ticks_5 : decode cX6_ticks 5 = .ok (.invokestatic 59, 3) := by decide +kernel
theorem dX6_ticks_8 : decode cX6_ticks 8 = .ok (.ifCond .ne 5, 3) := by decide +kernel
theorem dX6_ticks_11 : decode cX6_ticks 11 = .ok (.iconst (-1), 1) := by decide +kernel
theorem dX6_ticks_12 : decode cX6_ticks 12 = .ok (.ireturn, 1) := by decide +kernel
theorem dX6_ticks_13 : decode cX6_ticks 13 = .ok (.aload_n 0, 1) := by decide +kernel
theorem dX6_ticks_14 : decode cX6_ticks 14 = .ok (.getfield 47, 3) := by decide +kernel
theorem dX6_ticks_17 : decode cX6_ticks 17 = .ok (.getfield 188, 3) := by decide +kernel
theorem dX6_ticks_20 : decode cX6_ticks 20 = .ok (.iload_n 1, 1) := by decide +kernel
theorem dX6_ticks_21 : decode cX6_ticks 21 = .ok (.iadd, 1) := by decide +kernel
theorem dX6_ticks_22 : decode cX6_ticks 22 = .ok (.ldc 191, 2) := by decide +kernel
theorem dX6_ticks_24 : decode cX6_ticks 24 = .ok (.if_icmp .le 6, 3) := by decide +kernel
theorem dX6_ticks_27 : decode cX6_ticks 27 = .ok (.bipush (-3), 2) := by decide +kernel
theorem dX6_ticks_29 : decode cX6_ticks 29 = .ok (.ireturn, 1) := by decide +kernel
theorem dX6_ticks_30 : decode cX6_ticks 30 = .ok (.aload_n 0, 1) := by decide +kernel
theorem dX6_ticks_31 : decode cX6_ticks 31 = .ok (.getfield 47, 3) := by decide +kernel
theorem dX6_ticks_34 : decode cX6_ticks 34 = .ok (.iload_n 1, 1) := by decide +kernel
theorem dX6_ticks_35 : decode cX6_ticks 35 = .ok (.invokevirtual 192, 3) := by decide +kernel
theorem dX6_ticks_38 : decode cX6_ticks 38 = .ok (.aload_n 0, 1) := by decide +kernel
theorem dX6_ticks_39 : decode cX6_ticks 39 = .ok (.getfield 47, 3) := by decide +kernel
theorem dX6_ticks_42 : decode cX6_ticks 42 = .ok (.getfield 188, 3) := by decide +kernel
theorem dX6_ticks_45 : decode cX6_ticks 45 = .ok (.ireturn, 1) := by decide +kernel
theorem dX6_count_0 : decode cX6_count 0 = .ok (.iload_n 1, 1) := by decide +kernel
theorem dX6_count_1 : decode cX6_count 1 = .ok (.tableswitch 166 0 9 #[55, 63, 76, 89, 102, 110, 118, 130, 142, 150], 55) := by decide +kernel
theorem dX6_count_56 : decode cX6_count 56 = .ok (.aload_n 0, 1) := by decide +kernel
theorem dX6_count_57 : decode cX6_count 57 = .ok (.getfield 47, 3) := by decide +kernel
theorem dX6_count_60 : decode cX6_count 60 = .ok (.getfield 67, 3) := by decide +kernel
theorem dX6_count_63 : decode cX6_count 63 = .ok (.ireturn, 1) := by decide +kernel
theorem dX6_count_64 : decode cX6_count 64 = .ok (.aload_n 0, 1) := by decide +kernel
theorem dX6_count_65 : decode cX6_count 65 = .ok (.getfield 47, 3) := by decide +kernel
theorem dX6_count_68 : decode cX6_count 68 = .ok (.getfield 157, 3) := by decide +kernel
theorem dX6_count_71 : decode cX6_count 71 = .ok (.iconst 0, 1) := by decide +kernel
theorem dX6_count_72 : decode cX6_count 72 = .ok (.aaload, 1) := by decide +kernel
theorem dX6_count_73 : decode cX6_count 73 = .ok (.getfield 195, 3) := by decide +kernel
theorem dX6_count_76 : decode cX6_count 76 = .ok (.ireturn, 1) := by decide +kernel
theorem dX6_count_77 : decode cX6_count 77 = .ok (.aload_n 0, 1) := by decide +kernel
theorem dX6_count_78 : decode cX6_count 78 = .ok (.getfield 47, 3) := by decide +kernel
theorem dX6_count_81 : decode cX6_count 81 = .ok (.getfield 157, 3) := by decide +kernel
theorem dX6_count_84 : decode cX6_count 84 = .ok (.iconst 1, 1) := by decide +kernel
theorem dX6_count_85 : decode cX6_count 85 = .ok (.aaload, 1) := by decide +kernel
theorem dX6_count_86 : decode cX6_count 86 = .ok (.getfield 195, 3) := by decide +kernel
theorem dX6_count_89 : decode cX6_count 89 = .ok (.ireturn, 1) := by decide +kernel
theorem dX6_count_90 : decode cX6_count 90 = .ok (.aload_n 0, 1) := by decide +kernel
theorem dX6_count_91 : decode cX6_count 91 = .ok (.getfield 47, 3) := by decide +kernel
theorem dX6_count_94 : decode cX6_count 94 = .ok (.getfield 157, 3) := by decide +kernel
theorem dX6_count_97 : decode cX6_count 97 = .ok (.iconst 2, 1) := by decide +kernel
theorem dX6_count_98 : decode cX6_count 98 = .ok (.aaload, 1) := by decide +kernel
theorem dX6_count_99 : decode cX6_count 99 = .ok (.getfield 195, 3) := by decide +kernel
theorem dX6_count_102 : decode cX6_count 102 = .ok (.ireturn, 1) := by decide +kernel
theorem dX6_count_103 : decode cX6_count 103 = .ok (.aload_n 0, 1) := by decide +kernel
theorem dX6_count_104 : decode cX6_count 104 = .ok (.getfield 47, 3) := by decide +kernel
theorem dX6_count_107 : decode cX6_count 107 = .ok (.getfield 70, 3) := by decide +kernel
theorem dX6_count_110 : decode cX6_count 110 = .ok (.ireturn, 1) := by decide +kernel
theorem dX6_count_111 : decode cX6_count 111 = .ok (.aload_n 0, 1) := by decide +kernel
theorem dX6_count_112 : decode cX6_count 112 = .ok (.getfield 47, 3) := by decide +kernel
theorem dX6_count_115 : decode cX6_count 115 = .ok (.getfield 73, 3) := by decide +kernel
theorem dX6_count_118 : decode cX6_count 118 = .ok (.ireturn, 1) := by decide +kernel
theorem dX6_count_119 : decode cX6_count 119 = .ok (.aload_n 0, 1) := by decide +kernel
theorem dX6_count_120 : decode cX6_count 120 = .ok (.getfield 22, 3) := by decide +kernel
theorem dX6_count_123 : decode cX6_count 123 = .ok (.aload_n 0, 1) := by decide +kernel
theorem dX6_count_124 : decode cX6_count 124 = .ok (.getfield 47, 3) := by decide +kernel
theorem dX6_count_127 : decode cX6_count 127 = .ok (.invokevirtual 196, 3) := by decide +kernel
theorem dX6_count_130 : decode cX6_count 130 = .ok (.ireturn, 1) := by decide +kernel
theorem dX6_count_131 : decode cX6_count 131 = .ok (.aload_n 0, 1) := by decide +kernel
theorem dX6_count_132 : decode cX6_count 132 = .ok (.getfield 22, 3) := by decide +kernel
theorem dX6_count_135 : decode cX6_count 135 = .ok (.aload_n 0, 1) := by decide +kernel
theorem dX6_count_136 : decode cX6_count 136 = .ok (.getfield 47, 3) := by decide +kernel
theorem dX6_count_139 : decode cX6_count 139 = .ok (.invokevirtual 200, 3) := by decide +kernel
theorem dX6_count_142 : decode cX6_count 142 = .ok (.ireturn, 1) := by decide +kernel
theorem dX6_count_143 : decode cX6_count 143 = .ok (.aload_n 0, 1) := by decide +kernel
theorem dX6_count_144 : decode cX6_count 144 = .ok (.getfield 47, 3) := by decide +kernel
theorem dX6_count_147 : decode cX6_count 147 = .ok (.getfield 188, 3) := by decide +kernel
theorem dX6_count_150 : decode cX6_count 150 = .ok (.ireturn, 1) := by decide +kernel
theorem dX6_count_151 : decode cX6_count 151 = .ok (.aload_n 0, 1) := by decide +kernel
theorem dX6_count_152 : decode cX6_count 152 = .ok (.getfield 47, 3) := by decide +kernel
theorem dX6_count_155 : decode cX6_count 155 = .ok (.invokevirtual 203, 3) := by decide +kernel
theorem dX6_count_158 : decode cX6_count 158 = .ok (.ifCond .eq 7, 3) := by decide +kernel
theorem dX6_count_161 : decode cX6_count 161 = .ok (.iconst 1, 1) := by decide +kernel
theorem dX6_count_162 : decode cX6_count 162 = .ok (.goto 4, 3) := by decide +kernel
theorem dX6_count_165 : decode cX6_count 165 = .ok (.iconst 0, 1) := by decide +kernel
theorem dX6_count_166 : decode cX6_count 166 = .ok (.ireturn, 1) := by decide +kernel
theorem dX6_count_167 : decode cX6_count 167 = .ok (.iconst (-1), 1) := by decide +kernel
theorem dX6_count_168 : decode cX6_count 168 = .ok (.ireturn, 1) := by decide +kernel
theorem dX6_knot_0 : decode cX6_knot 0 = .ok (.iload_n 1, 1) := by decide +kernel
theorem dX6_knot_1 : decode cX6_knot 1 = .ok (.ifCond .lt 12, 3) := by decide +kernel
theorem dX6_knot_4 : decode cX6_knot 4 = .ok (.iload_n 2, 1) := by decide +kernel
theorem dX6_knot_5 : decode cX6_knot 5 = .ok (.iconst 0, 1) := by decide +kernel
theorem dX6_knot_6 : decode cX6_knot 6 = .ok (.iconst 1, 1) := by decide +kernel
theorem dX6_knot_7 : decode cX6_knot 7 = .ok (.invokestatic 59, 3) := by decide +kernel
theorem dX6_knot_10 : decode cX6_knot 10 = .ok (.ifCond .ne 5, 3) := by decide +kernel
theorem dX6_knot_13 : decode cX6_knot 13 = .ok (.iconst (-1), 1) := by decide +kernel
theorem dX6_knot_14 : decode cX6_knot 14 = .ok (.ireturn, 1) := by decide +kernel
theorem dX6_knot_15 : decode cX6_knot 15 = .ok (.iload_n 1, 1) := by decide +kernel
theorem dX6_knot_16 : decode cX6_knot 16 = .ok (.aload_n 0, 1) := by decide +kernel
theorem dX6_knot_17 : decode cX6_knot 17 = .ok (.getfield 22, 3) := by decide +kernel
theorem dX6_knot_20 : decode cX6_knot 20 = .ok (.aload_n 0, 1) := by decide +kernel
theorem dX6_knot_21 : decode cX6_knot 21 = .ok (.getfield 47, 3) := by decide +kernel
theorem dX6_knot_24 : decode cX6_knot 24 = .ok (.invokevirtual 196, 3) := by decide +kernel
theorem dX6_knot_27 : decode cX6_knot 27 = .ok (.if_icmp .lt 6, 3) := by decide +kernel
theorem dX6_knot_30 : decode cX6_knot 30 = .ok (.bipush (-4), 2) := by decide +kernel
theorem dX6_knot_32 : decode cX6_knot 32 = .ok (.ireturn, 1) := by decide +kernel
theorem dX6_knot_33 : decode cX6_knot 33 = .ok (.iload_n 2, 1) := by decide +kernel
theorem dX6_knot_34 : decode cX6_knot 34 = .ok (.ifCond .ne 15, 3) := by decide +kernel
theorem dX6_knot_37 : decode cX6_knot 37 = .ok (.aload_n 0, 1) := by decide +kernel
theorem dX6_knot_38 : decode cX6_knot 38 = .ok (.getfield 22, 3) := by decide +kernel
theorem dX6_knot_41 : decode cX6_knot 41 = .ok (.getfield 206, 3) := by decide +kernel
theorem dX6_knot_44 : decode cX6_knot 44 = .ok (.iload_n 1, 1) := by decide +kernel
theorem dX6_knot_45 : decode cX6_knot 45 = .ok (.iaload, 1) := by decide +kernel
theorem dX6_knot_46 : decode cX6_knot 46 = .ok (.goto 12, 3) := by decide +kernel
theorem dX6_knot_49 : decode cX6_knot 49 = .ok (.aload_n 0, 1) := by decide +kernel
theorem dX6_knot_50 : decode cX6_knot 50 = .ok (.getfield 22, 3) := by decide +kernel
theorem dX6_knot_53 : decode cX6_knot 53 = .ok (.getfield 209, 3) := by decide +kernel
theorem dX6_knot_56 : decode cX6_knot 56 = .ok (.iload_n 1, 1) := by decide +kernel
theorem dX6_knot_57 : decode cX6_knot 57 = .ok (.iaload, 1) := by decide +kernel
theorem dX6_knot_58 : decode cX6_knot 58 = .ok (.ireturn, 1) := by decide +kernel
theorem dX6_first_0 : decode cX6_first 0 = .ok (.aload_n 0, 1) := by decide +kernel
theorem dX6_first_1 : decode cX6_first 1 = .ok (.getfield 47, 3) := by decide +kernel
theorem dX6_first_4 : decode cX6_first 4 = .ok (.getfield 94, 3) := by decide +kernel
theorem dX6_first_7 : decode cX6_first 7 = .ok (.ireturn, 1) := by decide +kernel
theorem dX6_cost_0 : decode cX6_cost 0 = .ok (.aload_n 0, 1) := by decide +kernel
theorem dX6_cost_1 : decode cX6_cost 1 = .ok (.iload_n 1, 1) := by decide +kernel
theorem dX6_cost_2 : decode cX6_cost 2 = .ok (.invokevirtual 97, 3) := by decide +kernel
theorem dX6_cost_5 : decode cX6_cost 5 = .ok (.ifCond .eq 27, 3) := by decide +kernel
theorem dX6_cost_8 : decode cX6_cost 8 = .ok (.iload_n 2, 1) := by decide +kernel
theorem dX6_cost_9 : decode cX6_cost 9 = .ok (.iconst 1, 1) := by decide +kernel
theorem dX6_cost_10 : decode cX6_cost 10 = .ok (.sipush 200, 3) := by decide +kernel
theorem dX6_cost_13 : decode cX6_cost 13 = .ok (.invokestatic 59, 3) := by decide +kernel
theorem dX6_cost_16 : decode cX6_cost 16 = .ok (.ifCond .eq 16, 3) := by decide +kernel
theorem dX6_cost_19 : decode cX6_cost 19 = .ok (.iload_n 3, 1) := by decide +kernel
theorem dX6_cost_20 : decode cX6_cost 20 = .ok (.iconst (-1), 1) := by decide +kernel
theorem dX6_cost_21 : decode cX6_cost 21 = .ok (.if_icmp .eq 14, 3) := by decide +kernel
theorem dX6_cost_24 : decode cX6_cost 24 = .ok (.aload_n 0, 1) := by decide +kernel
theorem dX6_cost_25 : decode cX6_cost 25 = .ok (.iload_n 3, 1) := by decide +kernel
theorem dX6_cost_26 : decode cX6_cost 26 = .ok (.invokevirtual 97, 3) := by decide +kernel
theorem dX6_cost_29 : decode cX6_cost 29 = .ok (.ifCond .ne 6, 3) := by decide +kernel
theorem dX6_cost_32 : decode cX6_cost 32 = .ok (.ldc 211, 2) := by decide +kernel
theorem dX6_cost_34 : decode cX6_cost 34 = .ok (.ireturn, 1) := by decide +kernel
theorem dX6_cost_35 : decode cX6_cost 35 = .ok (.aload_n 0, 1) := by decide +kernel
theorem dX6_cost_36 : decode cX6_cost 36 = .ok (.iload_n 1, 1) := by decide +kernel
theorem dX6_cost_37 : decode cX6_cost 37 = .ok (.iconst 1, 1) := by decide +kernel
theorem dX6_cost_38 : decode cX6_cost 38 = .ok (.iload_n 2, 1) := by decide +kernel
theorem dX6_cost_39 : decode cX6_cost 39 = .ok (.invokevirtual 212, 3) := by decide +kernel
theorem dX6_cost_42 : decode cX6_cost 42 = .ok (.aload_n 0, 1) := by decide +kernel
theorem dX6_cost_43 : decode cX6_cost 43 = .ok (.getfield 51, 3) := by decide +kernel
theorem dX6_cost_46 : decode cX6_cost 46 = .ok (.iload_n 3, 1) := by decide +kernel
theorem dX6_cost_47 : decode cX6_cost 47 = .ok (.invokevirtual 216, 3) := by decide +kernel
theorem dX6_cost_50 : decode cX6_cost 50 = .ok (.istore 4, 2) := by decide +kernel
theorem dX6_cost_52 : decode cX6_cost 52 = .ok (.aload_n 0, 1) := by decide +kernel
theorem dX6_cost_53 : decode cX6_cost 53 = .ok (.iload_n 1, 1) := by decide +kernel
theorem dX6_cost_54 : decode cX6_cost 54 = .ok (.iconst 0, 1) := by decide +kernel
theorem dX6_cost_55 : decode cX6_cost 55 = .ok (.iload_n 2, 1) := by decide +kernel
theorem dX6_cost_56 : decode cX6_cost 56 = .ok (.invokevirtual 212, 3) := by decide +kernel
theorem dX6_cost_59 : decode cX6_cost 59 = .ok (.aload_n 0, 1) := by decide +kernel
theorem dX6_cost_60 : decode cX6_cost 60 = .ok (.getfield 51, 3) := by decide +kernel
theorem dX6_cost_63 : decode cX6_cost 63 = .ok (.iload_n 3, 1) := by decide +kernel
theorem dX6_cost_64 : decode cX6_cost 64 = .ok (.invokevirtual 216, 3) := by decide +kernel
theorem dX6_cost_67 : decode cX6_cost 67 = .ok (.iload 4, 2) := by decide +kernel
theorem dX6_cost_69 : decode cX6_cost 69 = .ok (.isub, 1) := by decide +kernel
theorem dX6_cost_70 : decode cX6_cost 70 = .ok (.ireturn, 1) := by decide +kernel
theorem dX6_after_0 : decode cX6_after 0 = .ok (.aload_n 0, 1) := by decide +kernel
theorem dX6_after_1 : decode cX6_after 1 = .ok (.iload_n 1, 1) := by decide +kernel
theorem dX6_after_2 : decode cX6_after 2 = .ok (.invokevirtual 97, 3) := by decide +kernel
theorem dX6_after_5 : decode cX6_after 5 = .ok (.ifCond .eq 14, 3) := by decide +kernel
theorem dX6_after_8 : decode cX6_after 8 = .ok (.iload_n 2, 1) := by decide +kernel
theorem dX6_after_9 : decode cX6_after 9 = .ok (.iconst 1, 1) := by decide +kernel
theorem dX6_after_10 : decode cX6_after 10 = .ok (.sipush 200, 3) := by decide +kernel
theorem dX6_after_13 : decode cX6_after 13 = .ok (.invokestatic 59, 3) := by decide +kernel
theorem dX6_after_16 : decode cX6_after 16 = .ok (.ifCond .ne 5, 3) := by decide +kernel
theorem dX6_after_19 : decode cX6_after 19 = .ok (.iconst (-1), 1) := by decide +kernel
theorem dX6_after_20 : decode cX6_after 20 = .ok (.ireturn, 1) := by decide +kernel
theorem dX6_after_21 : decode cX6_after 21 = .ok (.aload_n 0, 1) := by decide +kernel
theorem dX6_after_22 : decode cX6_after 22 = .ok (.iload_n 1, 1) := by decide +kernel
theorem dX6_after_23 : decode cX6_after 23 = .ok (.iconst 1, 1) := by decide +kernel
theorem dX6_after_24 : decode cX6_after 24 = .ok (.iload_n 2, 1) := by decide +kernel
theorem dX6_after_25 : decode cX6_after 25 = .ok (.invokevirtual 212, 3) := by decide +kernel
theorem dX6_after_28 : decode cX6_after 28 = .ok (.aload_n 0, 1) := by decide +kernel
theorem dX6_after_29 : decode cX6_after 29 = .ok (.getfield 22, 3) := by decide +kernel
theorem dX6_after_32 : decode cX6_after 32 = .ok (.aload_n 0, 1) := by decide +kernel
theorem dX6_after_33 : decode cX6_after 33 = .ok (.getfield 51, 3) := by decide +kernel
theorem dX6_after_36 : decode cX6_after 36 = .ok (.invokevirtual 196, 3) := by decide +kernel
theorem dX6_after_39 : decode cX6_after 39 = .ok (.ireturn, 1) := by decide +kernel
theorem dX6_calmed_0 : decode cX6_calmed 0 = .ok (.aload_n 0, 1) := by decide +kernel
theorem dX6_calmed_1 : decode cX6_calmed 1 = .ok (.iload_n 1, 1) := by decide +kernel
theorem dX6_calmed_2 : decode cX6_calmed 2 = .ok (.invokevirtual 97, 3) := by decide +kernel
theorem dX6_calmed_5 : decode cX6_calmed 5 = .ok (.ifCond .eq 14, 3) := by decide +kernel
theorem dX6_calmed_8 : decode cX6_calmed 8 = .ok (.iload_n 2, 1) := by decide +kernel
theorem dX6_calmed_9 : decode cX6_calmed 9 = .ok (.iconst 1, 1) := by decide +kernel
theorem dX6_calmed_10 : decode cX6_calmed 10 = .ok (.sipush 200, 3) := by decide +kernel
theorem dX6_calmed_13 : decode cX6_calmed 13 = .ok (.invokestatic 59, 3) := by decide +kernel
theorem dX6_calmed_16 : decode cX6_calmed 16 = .ok (.ifCond .ne 5, 3) := by decide +kernel
theorem dX6_calmed_19 : decode cX6_calmed 19 = .ok (.iconst (-1), 1) := by decide +kernel
theorem dX6_calmed_20 : decode cX6_calmed 20 = .ok (.ireturn, 1) := by decide +kernel
theorem dX6_calmed_21 : decode cX6_calmed 21 = .ok (.aload_n 0, 1) := by decide +kernel
theorem dX6_calmed_22 : decode cX6_calmed 22 = .ok (.getfield 47, 3) := by decide +kernel
theorem dX6_calmed_25 : decode cX6_calmed 25 = .ok (.getfield 67, 3) := by decide +kernel
theorem dX6_calmed_28 : decode cX6_calmed 28 = .ok (.bipush 8, 2) := by decide +kernel
theorem dX6_calmed_30 : decode cX6_calmed 30 = .ok (.if_icmp .le 6, 3) := by decide +kernel
theorem dX6_calmed_33 : decode cX6_calmed 33 = .ok (.bipush (-2), 2) := by decide +kernel
theorem dX6_calmed_35 : decode cX6_calmed 35 = .ok (.ireturn, 1) := by decide +kernel
theorem dX6_calmed_36 : decode cX6_calmed 36 = .ok (.iconst 1, 1) := by decide +kernel
theorem dX6_calmed_37 : decode cX6_calmed 37 = .ok (.aload_n 0, 1) := by decide +kernel
theorem dX6_calmed_38 : decode cX6_calmed 38 = .ok (.getfield 47, 3) := by decide +kernel
theorem dX6_calmed_41 : decode cX6_calmed 41 = .ok (.getfield 67, 3) := by decide +kernel
theorem dX6_calmed_44 : decode cX6_calmed 44 = .ok (.ishl, 1) := by decide +kernel
theorem dX6_calmed_45 : decode cX6_calmed 45 = .ok (.istore_n 3, 1) := by decide +kernel
theorem dX6_calmed_46 : decode cX6_calmed 46 = .ok (.iconst 0, 1) := by decide +kernel
theorem dX6_calmed_47 : decode cX6_calmed 47 = .ok (.istore 4, 2) := by decide +kernel
theorem dX6_calmed_49 : decode cX6_calmed 49 = .ok (.iload 4, 2) := by decide +kernel
theorem dX6_calmed_51 : decode cX6_calmed 51 = .ok (.aload_n 0, 1) := by decide +kernel
theorem dX6_calmed_52 : decode cX6_calmed 52 = .ok (.getfield 47, 3) := by decide +kernel
theorem dX6_calmed_55 : decode cX6_calmed 55 = .ok (.getfield 67, 3) := by decide +kernel
theorem dX6_calmed_58 : decode cX6_calmed 58 = .ok (.if_icmp .gt 48, 3) := by decide +kernel
theorem dX6_calmed_61 : decode cX6_calmed 61 = .ok (.iconst 0, 1) := by decide +kernel
theorem dX6_calmed_62 : decode cX6_calmed 62 = .ok (.istore 5, 2) := by decide +kernel
theorem dX6_calmed_64 : decode cX6_calmed 64 = .ok (.iload 5, 2) := by decide +kernel
theorem dX6_calmed_66 : decode cX6_calmed 66 = .ok (.iload_n 3, 1) := by decide +kernel
theorem dX6_calmed_67 : decode cX6_calmed 67 = .ok (.if_icmp .ge 33, 3) := by decide +kernel
theorem dX6_calmed_70 : decode cX6_calmed 70 = .ok (.iload 5, 2) := by decide +kernel
theorem dX6_calmed_72 : decode cX6_calmed 72 = .ok (.invokestatic 219, 3) := by decide +kernel
theorem dX6_calmed_75 : decode cX6_calmed 75 = .ok (.iload 4, 2) := by decide +kernel
theorem dX6_calmed_77 : decode cX6_calmed 77 = .ok (.if_icmp .ne 17, 3) := by decide +kernel
theorem dX6_calmed_80 : decode cX6_calmed 80 = .ok (.aload_n 0, 1) := by decide +kernel
theorem dX6_calmed_81 : decode cX6_calmed 81 = .ok (.iload 5, 2) := by decide +kernel
theorem dX6_calmed_83 : decode cX6_calmed 83 = .ok (.iload_n 1, 1) := by decide +kernel
theorem dX6_calmed_84 : decode cX6_calmed 84 = .ok (.iload_n 2, 1) := by decide +kernel
theorem dX6_calmed_85 : decode cX6_calmed 85 = .ok (.invokevirtual 224, 3) := by decide +kernel
theorem dX6_calmed_88 : decode cX6_calmed 88 = .ok (.ifCond .eq 6, 3) := by decide +kernel
theorem dX6_calmed_91 : decode cX6_calmed 91 = .ok (.iload 5, 2) := by decide +kernel
theorem dX6_calmed_93 : decode cX6_calmed 93 = .ok (.ireturn, 1) := by decide +kernel
theorem dX6_calmed_94 : decode cX6_calmed 94 = .ok (.iinc 5 1, 3) := by decide +kernel
theorem dX6_calmed_97 : decode cX6_calmed 97 = .ok (.goto (-33), 3) := by decide +kernel
theorem dX6_calmed_100 : decode cX6_calmed 100 = .ok (.iinc 4 1, 3) := by decide +kernel
theorem dX6_calmed_103 : decode cX6_calmed 103 = .ok (.goto (-54), 3) := by decide +kernel
theorem dX6_calmed_106 : decode cX6_calmed 106 = .ok (.bipush (-4), 2) := by decide +kernel
theorem dX6_calmed_108 : decode cX6_calmed 108 = .ok (.ireturn, 1) := by decide +kernel
theorem dX6_isCalmWith_0 : decode cX6_isCalmWith 0 = .ok (.aload_n 0, 1) := by decide +kernel
theorem dX6_isCalmWith_1 : decode cX6_isCalmWith 1 = .ok (.getfield 51, 3) := by decide +kernel
theorem dX6_isCalmWith_4 : decode cX6_isCalmWith 4 = .ok (.aload_n 0, 1) := by decide +kernel
theorem dX6_isCalmWith_5 : decode cX6_isCalmWith 5 = .ok (.getfield 47, 3) := by decide +kernel
theorem dX6_isCalmWith_8 : decode cX6_isCalmWith 8 = .ok (.invokevirtual 227, 3) := by decide +kernel
theorem dX6_isCalmWith_11 : decode cX6_isCalmWith 11 = .ok (.iconst 0, 1) := by decide +kernel
theorem dX6_isCalmWith_12 : decode cX6_isCalmWith 12 = .ok (.istore 4, 2) := by decide +kernel
theorem dX6_isCalmWith_14 : decode cX6_isCalmWith 14 = .ok (.iload 4, 2) := by decide +kernel
theorem dX6_isCalmWith_16 : decode cX6_isCalmWith 16 = .ok (.aload_n 0, 1) := by decide +kernel
theorem dX6_isCalmWith_17 : decode cX6_isCalmWith 17 = .ok (.getfield 47, 3) := by decide +kernel
theorem dX6_isCalmWith_20 : decode cX6_isCalmWith 20 = .ok (.getfield 67, 3) := by decide +kernel
theorem dX6_isCalmWith_23 : decode cX6_isCalmWith 23 = .ok (.if_icmp .ge 33, 3) := by decide +kernel
theorem dX6_isCalmWith_26 : decode cX6_isCalmWith 26 = .ok (.iload_n 1, 1) := by decide +kernel
theorem dX6_isCalmWith_27 : decode cX6_isCalmWith 27 = .ok (.iload 4, 2) := by decide +kernel
theorem dX6_isCalmWith_29 : decode cX6_isCalmWith 29 = .ok (.ishr, 1) := by decide +kernel
theorem dX6_isCalmWith_30 : decode cX6_isCalmWith 30 = .ok (.iconst 1, 1) := by decide +kernel
theorem dX6_isCalmWith_31 : decode cX6_isCalmWith 31 = .ok (.iand, 1) := by decide +kernel
theorem dX6_isCalmWith_32 : decode cX6_isCalmWith 32 = .ok (.iconst 1, 1) := by decide +kernel
theorem dX6_isCalmWith_33 : decode cX6_isCalmWith 33 = .ok (.if_icmp .ne 17, 3) := by decide +kernel
theorem dX6_isCalmWith_36 : decode cX6_isCalmWith 36 = .ok (.aload_n 0, 1) := by decide +kernel
theorem dX6_isCalmWith_37 : decode cX6_isCalmWith 37 = .ok (.getfield 51, 3) := by decide +kernel
theorem dX6_isCalmWith_40 : decode cX6_isCalmWith 40 = .ok (.getfield 100, 3) := by decide +kernel
theorem dX6_isCalmWith_43 : decode cX6_isCalmWith 43 = .ok (.iload 4, 2) := by decide +kernel
theorem dX6_isCalmWith_45 : decode cX6_isCalmWith 45 = .ok (.aaload, 1) := by decide +kernel
theorem dX6_isCalmWith_46 : decode cX6_isCalmWith 46 = .ok (.iconst 2, 1) := by decide +kernel
theorem dX6_isCalmWith_47 : decode cX6_isCalmWith 47 = .ok (.putfield 104, 3) := by decide +kernel
theorem dX6_isCalmWith_50 : decode cX6_isCalmWith 50 = .ok (.iinc 4 1, 3) := by decide +kernel
theorem dX6_isCalmWith_53 : decode cX6_isCalmWith 53 = .ok (.goto (-39), 3) := by decide +kernel
theorem dX6_isCalmWith_56 : decode cX6_isCalmWith 56 = .ok (.aload_n 0, 1) := by decide +kernel
theorem dX6_isCalmWith_57 : decode cX6_isCalmWith 57 = .ok (.getfield 51, 3) := by decide +kernel
theorem dX6_isCalmWith_60 : decode cX6_isCalmWith 60 = .ok (.getfield 100, 3) := by decide +kernel
theorem dX6_isCalmWith_63 : decode cX6_isCalmWith 63 = .ok (.iload_n 2, 1) := by decide +kernel
theorem dX6_isCalmWith_64 : decode cX6_isCalmWith 64 = .ok (.aaload, 1) := by decide +kernel
theorem dX6_isCalmWith_65 : decode cX6_isCalmWith 65 = .ok (.iconst 1, 1) := by decide +kernel
theorem dX6_isCalmWith_66 : decode cX6_isCalmWith 66 = .ok (.putfield 184, 3) := by decide +kernel
theorem dX6_isCalmWith_69 : decode cX6_isCalmWith 69 = .ok (.aload_n 0, 1) := by decide +kernel
theorem dX6_isCalmWith_70 : decode cX6_isCalmWith 70 = .ok (.getfield 51, 3) := by decide +kernel
theorem dX6_isCalmWith_73 : decode cX6_isCalmWith 73 = .ok (.iload_n 3, 1) := by decide +kernel
theorem dX6_isCalmWith_74 : decode cX6_isCalmWith 74 = .ok (.invokevirtual 192, 3) := by decide +kernel
theorem dX6_isCalmWith_77 : decode cX6_isCalmWith 77 = .ok (.aload_n 0, 1) := by decide +kernel
theorem dX6_isCalmWith_78 : decode cX6_isCalmWith 78 = .ok (.getfield 22, 3) := by decide +kernel
theorem dX6_isCalmWith_81 : decode cX6_isCalmWith 81 = .ok (.aload_n 0, 1) := by decide +kernel
theorem dX6_isCalmWith_82 : decode cX6_isCalmWith 82 = .ok (.getfield 51, 3) := by decide +kernel
theorem dX6_isCalmWith_85 : decode cX6_isCalmWith 85 = .ok (.invokevirtual 196, 3) := by decide +kernel
theorem dX6_isCalmWith_88 : decode cX6_isCalmWith 88 = .ok (.ifCond .ne 7, 3) := by decide +kernel
theorem dX6_isCalmWith_91 : decode cX6_isCalmWith 91 = .ok (.iconst 1, 1) := by decide +kernel
theorem dX6_isCalmWith_92 : decode cX6_isCalmWith 92 = .ok (.goto 4, 3) := by decide +kernel
theorem dX6_isCalmWith_95 : decode cX6_isCalmWith 95 = .ok (.iconst 0, 1) := by decide +kernel
theorem dX6_isCalmWith_96 : decode cX6_isCalmWith 96 = .ok (.ireturn, 1) := by decide +kernel
theorem dX6_round_0 : decode cX6_round 0 = .ok (.iload_n 1, 1) := by decide +kernel
theorem dX6_round_1 : decode cX6_round 1 = .ok (.iconst 1, 1) := by decide +kernel
theorem dX6_round_2 : decode cX6_round 2 = .ok (.sipush 500, 3) := by decide +kernel
theorem dX6_round_5 : decode cX6_round 5 = .ok (.invokestatic 59, 3) := by decide +kernel
theorem dX6_round_8 : decode cX6_round 8 = .ok (.ifCond .ne 5, 3) := by decide +kernel
theorem dX6_round_11 : decode cX6_round 11 = .ok (.iconst (-1), 1) := by decide +kernel
theorem dX6_round_12 : decode cX6_round 12 = .ok (.ireturn, 1) := by decide +kernel
theorem dX6_round_13 : decode cX6_round 13 = .ok (.aload_n 0, 1) := by decide +kernel
theorem dX6_round_14 : decode cX6_round 14 = .ok (.getfield 51, 3) := by decide +kernel
theorem dX6_round_17 : decode cX6_round 17 = .ok (.aload_n 0, 1) := by decide +kernel
theorem dX6_round_18 : decode cX6_round 18 = .ok (.getfield 47, 3) := by decide +kernel
theorem dX6_round_21 : decode cX6_round 21 = .ok (.invokevirtual 227, 3) := by decide +kernel
theorem dX6_round_24 : decode cX6_round 24 = .ok (.iconst 1, 1) := by decide +kernel
theorem dX6_round_25 : decode cX6_round 25 = .ok (.istore_n 2, 1) := by decide +kernel
theorem dX6_round_26 : decode cX6_round 26 = .ok (.iload_n 2, 1) := by decide +kernel
theorem dX6_round_27 : decode cX6_round 27 = .ok (.iload_n 1, 1) := by decide +kernel
theorem dX6_round_28 : decode cX6_round 28 = .ok (.if_icmp .gt 32, 3) := by decide +kernel
theorem dX6_round_31 : decode cX6_round 31 = .ok (.aload_n 0, 1) := by decide +kernel
theorem dX6_round_32 : decode cX6_round 32 = .ok (.getfield 51, 3) := by decide +kernel
theorem dX6_round_35 : decode cX6_round 35 = .ok (.invokevirtual 231, 3) := by decide +kernel
theorem dX6_round_38 : decode cX6_round 38 = .ok (.aload_n 0, 1) := by decide +kernel
theorem dX6_round_39 : decode cX6_round 39 = .ok (.getfield 51, 3) := by decide +kernel
theorem dX6_round_42 : decode cX6_round 42 = .ok (.aload_n 0, 1) := by decide +kernel
theorem dX6_round_43 : decode cX6_round 43 = .ok (.getfield 47, 3) := by decide +kernel
theorem dX6_round_46 : decode cX6_round 46 = .ok (.invokevirtual 234, 3) := by decide +kernel
theorem dX6_round_49 : decode cX6_round 49 = .ok (.ifCond .eq 5, 3) := by decide +kernel
theorem dX6_round_52 : decode cX6_round 52 = .ok (.iload_n 2, 1) := by decide +kernel
theorem dX6_round_53 : decode cX6_round 53 = .ok (.ireturn, 1) := by decide +kernel
theorem dX6_round_54 : decode cX6_round 54 = .ok (.iinc 2 1, 3) := by decide +kernel
theorem dX6_round_57 : decode cX6_round 57 = .ok (.goto (-31), 3) := by decide +kernel
theorem dX6_round_60 : decode cX6_round 60 = .ok (.bipush (-4), 2) := by decide +kernel
theorem dX6_round_62 : decode cX6_round 62 = .ok (.ireturn, 1) := by decide +kernel
theorem dX6_evens_0 : decode cX6_evens 0 = .ok (.iload_n 1, 1) := by decide +kernel
theorem dX6_evens_1 : decode cX6_evens 1 = .ok (.iconst 0, 1) := by decide +kernel
theorem dX6_evens_2 : decode cX6_evens 2 = .ok (.sipush 500, 3) := by decide +kernel
theorem dX6_evens_5 : decode cX6_evens 5 = .ok (.invokestatic 59, 3) := by decide +kernel
theorem dX6_evens_8 : decode cX6_evens 8 = .ok (.ifCond .ne 5, 3) := by decide +kernel
theorem dX6_evens_11 : decode cX6_evens 11 = .ok (.iconst (-1), 1) := by decide +kernel
theorem dX6_evens_12 : decode cX6_evens 12 = .ok (.ireturn, 1) := by decide +kernel
theorem dX6_evens_13 : decode cX6_evens 13 = .ok (.aload_n 0, 1) := by decide +kernel
theorem dX6_evens_14 : decode cX6_evens 14 = .ok (.getfield 51, 3) := by decide +kernel
theorem dX6_evens_17 : decode cX6_evens 17 = .ok (.aload_n 0, 1) := by decide +kernel
theorem dX6_evens_18 : decode cX6_evens 18 = .ok (.getfield 47, 3) := by decide +kernel
theorem dX6_evens_21 : decode cX6_evens 21 = .ok (.invokevirtual 227, 3) := by decide +kernel
theorem dX6_evens_24 : decode cX6_evens 24 = .ok (.iconst 0, 1) := by decide +kernel
theorem dX6_evens_25 : decode cX6_evens 25 = .ok (.istore_n 2, 1) := by decide +kernel
theorem dX6_evens_26 : decode cX6_evens 26 = .ok (.iload_n 2, 1) := by decide +kernel
theorem dX6_evens_27 : decode cX6_evens 27 = .ok (.iload_n 1, 1) := by decide +kernel
theorem dX6_evens_28 : decode cX6_evens 28 = .ok (.if_icmp .gt 28, 3) := by decide +kernel
theorem dX6_evens_31 : decode cX6_evens 31 = .ok (.aload_n 0, 1) := by decide +kernel
theorem dX6_evens_32 : decode cX6_evens 32 = .ok (.getfield 51, 3) := by decide +kernel
theorem dX6_evens_35 : decode cX6_evens 35 = .ok (.invokevirtual 203, 3) := by decide +kernel
theorem dX6_evens_38 : decode cX6_evens 38 = .ok (.ifCond .eq 5, 3) := by decide +kernel
theorem dX6_evens_41 : decode cX6_evens 41 = .ok (.iload_n 2, 1) := by decide +kernel
theorem dX6_evens_42 : decode cX6_evens 42 = .ok (.ireturn, 1) := by decide +kernel
theorem dX6_evens_43 : decode cX6_evens 43 = .ok (.aload_n 0, 1) := by decide +kernel
theorem dX6_evens_44 : decode cX6_evens 44 = .ok (.getfield 51, 3) := by decide +kernel
theorem dX6_evens_47 : decode cX6_evens 47 = .ok (.invokevirtual 231, 3) := by decide +kernel
theorem dX6_evens_50 : decode cX6_evens 50 = .ok (.iinc 2 1, 3) := by decide +kernel
theorem dX6_evens_53 : decode cX6_evens 53 = .ok (.goto (-27), 3) := by decide +kernel
theorem dX6_evens_56 : decode cX6_evens 56 = .ok (.bipush (-4), 2) := by decide +kernel
theorem dX6_evens_58 : decode cX6_evens 58 = .ok (.ireturn, 1) := by decide +kernel
theorem dX6_image_0 : decode cX6_image 0 = .ok (.iload_n 1, 1) := by decide +kernel
theorem dX6_image_1 : decode cX6_image 1 = .ok (.iconst 0, 1) := by decide +kernel
theorem dX6_image_2 : decode cX6_image 2 = .ok (.iconst 1, 1) := by decide +kernel
theorem dX6_image_3 : decode cX6_image 3 = .ok (.invokestatic 59, 3) := by decide +kernel
theorem dX6_image_6 : decode cX6_image 6 = .ok (.ifCond .ne 5, 3) := by decide +kernel
theorem dX6_image_9 : decode cX6_image 9 = .ok (.iconst (-1), 1) := by decide +kernel
theorem dX6_image_10 : decode cX6_image 10 = .ok (.ireturn, 1) := by decide +kernel
theorem dX6_image_11 : decode cX6_image 11 = .ok (.aload_n 0, 1) := by decide +kernel
theorem dX6_image_12 : decode cX6_image 12 = .ok (.getfield 11, 3) := by decide +kernel
theorem dX6_image_15 : decode cX6_image 15 = .ok (.iload_n 1, 1) := by decide +kernel
theorem dX6_image_16 : decode cX6_image 16 = .ok (.aaload, 1) := by decide +kernel
theorem dX6_image_17 : decode cX6_image 17 = .ok (.aload_n 0, 1) := by decide +kernel
theorem dX6_image_18 : decode cX6_image 18 = .ok (.getfield 47, 3) := by decide +kernel
theorem dX6_image_21 : decode cX6_image 21 = .ok (.invokevirtual 227, 3) := by decide +kernel
theorem dX6_image_24 : decode cX6_image 24 = .ok (.aload_n 0, 1) := by decide +kernel
theorem dX6_image_25 : decode cX6_image 25 = .ok (.getfield 15, 3) := by decide +kernel
theorem dX6_image_28 : decode cX6_image 28 = .ok (.iload_n 1, 1) := by decide +kernel
theorem dX6_image_29 : decode cX6_image 29 = .ok (.iconst 1, 1) := by decide +kernel
theorem dX6_image_30 : decode cX6_image 30 = .ok (.bastore, 1) := by decide +kernel
theorem dX6_image_31 : decode cX6_image 31 = .ok (.iconst 1, 1) := by decide +kernel
theorem dX6_image_32 : decode cX6_image 32 = .ok (.ireturn, 1) := by decide +kernel
theorem dX6_restore_0 : decode cX6_restore 0 = .ok (.iload_n 1, 1) := by decide +kernel
theorem dX6_restore_1 : decode cX6_restore 1 = .ok (.iconst 0, 1) := by decide +kernel
theorem dX6_restore_2 : decode cX6_restore 2 = .ok (.iconst 1, 1) := by decide +kernel
theorem dX6_restore_3 : decode cX6_restore 3 = .ok (.invokestatic 59, 3) := by decide +kernel
theorem dX6_restore_6 : decode cX6_restore 6 = .ok (.ifCond .ne 5, 3) := by decide +kernel
theorem dX6_restore_9 : decode cX6_restore 9 = .ok (.iconst (-1), 1) := by decide +kernel
theorem dX6_restore_10 : decode cX6_restore 10 = .ok (.ireturn, 1) := by decide +kernel
theorem dX6_restore_11 : decode cX6_restore 11 = .ok (.aload_n 0, 1) := by decide +kernel
theorem dX6_restore_12 : decode cX6_restore 12 = .ok (.getfield 15, 3) := by decide +kernel
theorem dX6_restore_15 : decode cX6_restore 15 = .ok (.iload_n 1, 1) := by decide +kernel
theorem dX6_restore_16 : decode cX6_restore 16 = .ok (.baload, 1) := by decide +kernel
theorem dX6_restore_17 : decode cX6_restore 17 = .ok (.ifCond .ne 6, 3) := by decide +kernel
theorem dX6_restore_20 : decode cX6_restore 20 = .ok (.bipush (-4), 2) := by decide +kernel
theorem dX6_restore_22 : decode cX6_restore 22 = .ok (.ireturn, 1) := by decide +kernel
theorem dX6_restore_23 : decode cX6_restore 23 = .ok (.aload_n 0, 1) := by decide +kernel
theorem dX6_restore_24 : decode cX6_restore 24 = .ok (.getfield 47, 3) := by decide +kernel
theorem dX6_restore_27 : decode cX6_restore 27 = .ok (.aload_n 0, 1) := by decide +kernel
theorem dX6_restore_28 : decode cX6_restore 28 = .ok (.getfield 11, 3) := by decide +kernel
theorem dX6_restore_31 : decode cX6_restore 31 = .ok (.iload_n 1, 1) := by decide +kernel
theorem dX6_restore_32 : decode cX6_restore 32 = .ok (.aaload, 1) := by decide +kernel
theorem dX6_restore_33 : decode cX6_restore 33 = .ok (.invokevirtual 227, 3) := by decide +kernel
theorem dX6_restore_36 : decode cX6_restore 36 = .ok (.iconst 1, 1) := by decide +kernel
theorem dX6_restore_37 : decode cX6_restore 37 = .ok (.ireturn, 1) := by decide +kernel
theorem dX6_paces_0 : decode cX6_paces 0 = .ok (.iload_n 1, 1) := by decide +kernel
theorem dX6_paces_1 : decode cX6_paces 1 = .ok (.invokestatic 238, 3) := by decide +kernel
theorem dX6_paces_4 : decode cX6_paces 4 = .ok (.ifCond .eq 12, 3) := by decide +kernel
theorem dX6_paces_7 : decode cX6_paces 7 = .ok (.iload_n 2, 1) := by decide +kernel
theorem dX6_paces_8 : decode cX6_paces 8 = .ok (.iconst 1, 1) := by decide +kernel
theorem dX6_paces_9 : decode cX6_paces 9 = .ok (.iconst 2, 1) := by decide +kernel
theorem dX6_paces_10 : decode cX6_paces 10 = .ok (.invokestatic 59, 3) := by decide +kernel
