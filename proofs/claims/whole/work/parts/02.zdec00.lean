theorem dX0_init_0 : decode cX0_init 0 = .ok (.aload_n 0, 1) := by decide +kernel
theorem dX0_init_1 : decode cX0_init 1 = .ok (.invokespecial 1, 3) := by decide +kernel
theorem dX0_init_4 : decode cX0_init 4 = .ok (.aload_n 0, 1) := by decide +kernel
theorem dX0_init_5 : decode cX0_init 5 = .ok (.bipush 12, 2) := by decide +kernel
theorem dX0_init_7 : decode cX0_init 7 = .ok (.newarray .int, 2) := by decide +kernel
theorem dX0_init_9 : decode cX0_init 9 = .ok (.putfield 9, 3) := by decide +kernel
theorem dX0_init_12 : decode cX0_init 12 = .ok (.return_, 1) := by decide +kernel
theorem dX0_begin_0 : decode cX0_begin 0 = .ok (.aload_n 0, 1) := by decide +kernel
theorem dX0_begin_1 : decode cX0_begin 1 = .ok (.iload_n 1, 1) := by decide +kernel
theorem dX0_begin_2 : decode cX0_begin 2 = .ok (.putfield 13, 3) := by decide +kernel
theorem dX0_begin_5 : decode cX0_begin 5 = .ok (.aload_n 0, 1) := by decide +kernel
theorem dX0_begin_6 : decode cX0_begin 6 = .ok (.iload_n 2, 1) := by decide +kernel
theorem dX0_begin_7 : decode cX0_begin 7 = .ok (.putfield 17, 3) := by decide +kernel
theorem dX0_begin_10 : decode cX0_begin 10 = .ok (.aload_n 0, 1) := by decide +kernel
theorem dX0_begin_11 : decode cX0_begin 11 = .ok (.iload_n 3, 1) := by decide +kernel
theorem dX0_begin_12 : decode cX0_begin 12 = .ok (.putfield 20, 3) := by decide +kernel
theorem dX0_begin_15 : decode cX0_begin 15 = .ok (.aload_n 0, 1) := by decide +kernel
theorem dX0_begin_16 : decode cX0_begin 16 = .ok (.iconst 0, 1) := by decide +kernel
theorem dX0_begin_17 : decode cX0_begin 17 = .ok (.putfield 23, 3) := by decide +kernel
theorem dX0_begin_20 : decode cX0_begin 20 = .ok (.aload_n 0, 1) := by decide +kernel
theorem dX0_begin_21 : decode cX0_begin 21 = .ok (.iconst 0, 1) := by decide +kernel
theorem dX0_begin_22 : decode cX0_begin 22 = .ok (.putfield 26, 3) := by decide +kernel
theorem dX0_begin_25 : decode cX0_begin 25 = .ok (.aload_n 0, 1) := by decide +kernel
theorem dX0_begin_26 : decode cX0_begin 26 = .ok (.iconst 0, 1) := by decide +kernel
theorem dX0_begin_27 : decode cX0_begin 27 = .ok (.putfield 29, 3) := by decide +kernel
theorem dX0_begin_30 : decode cX0_begin 30 = .ok (.aload_n 0, 1) := by decide +kernel
theorem dX0_begin_31 : decode cX0_begin 31 = .ok (.iconst 0, 1) := by decide +kernel
theorem dX0_begin_32 : decode cX0_begin 32 = .ok (.putfield 32, 3) := by decide +kernel
theorem dX0_begin_35 : decode cX0_begin 35 = .ok (.aload_n 0, 1) := by decide +kernel
theorem dX0_begin_36 : decode cX0_begin 36 = .ok (.iconst 0, 1) := by decide +kernel
theorem dX0_begin_37 : decode cX0_begin 37 = .ok (.putfield 35, 3) := by decide +kernel
theorem dX0_begin_40 : decode cX0_begin 40 = .ok (.aload_n 0, 1) := by decide +kernel
theorem dX0_begin_41 : decode cX0_begin 41 = .ok (.iconst 0, 1) := by decide +kernel
theorem dX0_begin_42 : decode cX0_begin 42 = .ok (.putfield 39, 3) := by decide +kernel
theorem dX0_begin_45 : decode cX0_begin 45 = .ok (.return_, 1) := by decide +kernel
theorem dX0_takeFrom_0 : decode cX0_takeFrom 0 = .ok (.aload_n 0, 1) := by decide +kernel
theorem dX0_takeFrom_1 : decode cX0_takeFrom 1 = .ok (.aload_n 1, 1) := by decide +kernel
theorem dX0_takeFrom_2 : decode cX0_takeFrom 2 = .ok (.getfield 17, 3) := by decide +kernel
theorem dX0_takeFrom_5 : decode cX0_takeFrom 5 = .ok (.putfield 17, 3) := by decide +kernel
theorem dX0_takeFrom_8 : decode cX0_takeFrom 8 = .ok (.aload_n 0, 1) := by decide +kernel
theorem dX0_takeFrom_9 : decode cX0_takeFrom 9 = .ok (.aload_n 1, 1) := by decide +kernel
theorem dX0_takeFrom_10 : decode cX0_takeFrom 10 = .ok (.getfield 13, 3) := by decide +kernel
theorem dX0_takeFrom_13 : decode cX0_takeFrom 13 = .ok (.putfield 13, 3) := by decide +kernel
theorem dX0_takeFrom_16 : decode cX0_takeFrom 16 = .ok (.aload_n 0, 1) := by decide +kernel
theorem dX0_takeFrom_17 : decode cX0_takeFrom 17 = .ok (.aload_n 1, 1) := by decide +kernel
theorem dX0_takeFrom_18 : decode cX0_takeFrom 18 = .ok (.getfield 20, 3) := by decide +kernel
theorem dX0_takeFrom_21 : decode cX0_takeFrom 21 = .ok (.putfield 20, 3) := by decide +kernel
theorem dX0_takeFrom_24 : decode cX0_takeFrom 24 = .ok (.aload_n 0, 1) := by decide +kernel
theorem dX0_takeFrom_25 : decode cX0_takeFrom 25 = .ok (.aload_n 1, 1) := by decide +kernel
theorem dX0_takeFrom_26 : decode cX0_takeFrom 26 = .ok (.getfield 23, 3) := by decide +kernel
theorem dX0_takeFrom_29 : decode cX0_takeFrom 29 = .ok (.putfield 23, 3) := by decide +kernel
theorem dX0_takeFrom_32 : decode cX0_takeFrom 32 = .ok (.aload_n 0, 1) := by decide +kernel
theorem dX0_takeFrom_33 : decode cX0_takeFrom 33 = .ok (.aload_n 1, 1) := by decide +kernel
theorem dX0_takeFrom_34 : decode cX0_takeFrom 34 = .ok (.getfield 26, 3) := by decide +kernel
theorem dX0_takeFrom_37 : decode cX0_takeFrom 37 = .ok (.putfield 26, 3) := by decide +kernel
theorem dX0_takeFrom_40 : decode cX0_takeFrom 40 = .ok (.aload_n 0, 1) := by decide +kernel
theorem dX0_takeFrom_41 : decode cX0_takeFrom 41 = .ok (.aload_n 1, 1) := by decide +kernel
theorem dX0_takeFrom_42 : decode cX0_takeFrom 42 = .ok (.getfield 29, 3) := by decide +kernel
theorem dX0_takeFrom_45 : decode cX0_takeFrom 45 = .ok (.putfield 29, 3) := by decide +kernel
theorem dX0_takeFrom_48 : decode cX0_takeFrom 48 = .ok (.aload_n 0, 1) := by decide +kernel
theorem dX0_takeFrom_49 : decode cX0_takeFrom 49 = .ok (.aload_n 1, 1) := by decide +kernel
theorem dX0_takeFrom_50 : decode cX0_takeFrom 50 = .ok (.getfield 32, 3) := by decide +kernel
theorem dX0_takeFrom_53 : decode cX0_takeFrom 53 = .ok (.putfield 32, 3) := by decide +kernel
theorem dX0_takeFrom_56 : decode cX0_takeFrom 56 = .ok (.aload_n 0, 1) := by decide +kernel
theorem dX0_takeFrom_57 : decode cX0_takeFrom 57 = .ok (.aload_n 1, 1) := by decide +kernel
theorem dX0_takeFrom_58 : decode cX0_takeFrom 58 = .ok (.getfield 35, 3) := by decide +kernel
theorem dX0_takeFrom_61 : decode cX0_takeFrom 61 = .ok (.putfield 35, 3) := by decide +kernel
theorem dX0_takeFrom_64 : decode cX0_takeFrom 64 = .ok (.aload_n 0, 1) := by decide +kernel
theorem dX0_takeFrom_65 : decode cX0_takeFrom 65 = .ok (.aload_n 1, 1) := by decide +kernel
theorem dX0_takeFrom_66 : decode cX0_takeFrom 66 = .ok (.getfield 39, 3) := by decide +kernel
theorem dX0_takeFrom_69 : decode cX0_takeFrom 69 = .ok (.putfield 39, 3) := by decide +kernel
theorem dX0_takeFrom_72 : decode cX0_takeFrom 72 = .ok (.aload_n 1, 1) := by decide +kernel
theorem dX0_takeFrom_73 : decode cX0_takeFrom 73 = .ok (.getfield 9, 3) := by decide +kernel
theorem dX0_takeFrom_76 : decode cX0_takeFrom 76 = .ok (.iconst 0, 1) := by decide +kernel
theorem dX0_takeFrom_77 : decode cX0_takeFrom 77 = .ok (.aload_n 0, 1) := by decide +kernel
theorem dX0_takeFrom_78 : decode cX0_takeFrom 78 = .ok (.getfield 9, 3) := by decide +kernel
theorem dX0_takeFrom_81 : decode cX0_takeFrom 81 = .ok (.iconst 0, 1) := by decide +kernel
theorem dX0_takeFrom_82 : decode cX0_takeFrom 82 = .ok (.aload_n 0, 1) := by decide +kernel
theorem dX0_takeFrom_83 : decode cX0_takeFrom 83 = .ok (.getfield 9, 3) := by decide +kernel
theorem dX0_takeFrom_86 : decode cX0_takeFrom 86 = .ok (.arraylength, 1) := by decide +kernel
theorem dX0_takeFrom_87 : decode cX0_takeFrom 87 = .ok (.invokestatic 42, 3) := by decide +kernel
theorem dX0_takeFrom_90 : decode cX0_takeFrom 90 = .ok (.return_, 1) := by decide +kernel
theorem dX0_note_0 : decode cX0_note 0 = .ok (.aload_n 0, 1) := by decide +kernel
theorem dX0_note_1 : decode cX0_note 1 = .ok (.getfield 39, 3) := by decide +kernel
theorem dX0_note_4 : decode cX0_note 4 = .ok (.invokestatic 48, 3) := by decide +kernel
theorem dX0_note_7 : decode cX0_note 7 = .ok (.istore_n 1, 1) := by decide +kernel
theorem dX0_note_8 : decode cX0_note 8 = .ok (.aload_n 0, 1) := by decide +kernel
theorem dX0_note_9 : decode cX0_note 9 = .ok (.getfield 9, 3) := by decide +kernel
theorem dX0_note_12 : decode cX0_note 12 = .ok (.iload_n 1, 1) := by decide +kernel
theorem dX0_note_13 : decode cX0_note 13 = .ok (.aload_n 0, 1) := by decide +kernel
theorem dX0_note_14 : decode cX0_note 14 = .ok (.getfield 52, 3) := by decide +kernel
theorem dX0_note_17 : decode cX0_note 17 = .ok (.iastore, 1) := by decide +kernel
theorem dX0_note_18 : decode cX0_note 18 = .ok (.aload_n 0, 1) := by decide +kernel
theorem dX0_note_19 : decode cX0_note 19 = .ok (.getfield 9, 3) := by decide +kernel
theorem dX0_note_22 : decode cX0_note 22 = .ok (.iload_n 1, 1) := by decide +kernel
theorem dX0_note_23 : decode cX0_note 23 = .ok (.iconst 1, 1) := by decide +kernel
theorem dX0_note_24 : decode cX0_note 24 = .ok (.iadd, 1) := by decide +kernel
theorem dX0_note_25 : decode cX0_note 25 = .ok (.aload_n 0, 1) := by decide +kernel
theorem dX0_note_26 : decode cX0_note 26 = .ok (.getfield 55, 3) := by decide +kernel
theorem dX0_note_29 : decode cX0_note 29 = .ok (.iastore, 1) := by decide +kernel
theorem dX0_note_30 : decode cX0_note 30 = .ok (.aload_n 0, 1) := by decide +kernel
theorem dX0_note_31 : decode cX0_note 31 = .ok (.getfield 9, 3) := by decide +kernel
theorem dX0_note_34 : decode cX0_note 34 = .ok (.iload_n 1, 1) := by decide +kernel
theorem dX0_note_35 : decode cX0_note 35 = .ok (.iconst 2, 1) := by decide +kernel
theorem dX0_note_36 : decode cX0_note 36 = .ok (.iadd, 1) := by decide +kernel
theorem dX0_note_37 : decode cX0_note 37 = .ok (.aload_n 0, 1) := by decide +kernel
theorem dX0_note_38 : decode cX0_note 38 = .ok (.getfield 58, 3) := by decide +kernel
theorem dX0_note_41 : decode cX0_note 41 = .ok (.iastore, 1) := by decide +kernel
theorem dX0_note_42 : decode cX0_note 42 = .ok (.aload_n 0, 1) := by decide +kernel
theorem dX0_note_43 : decode cX0_note 43 = .ok (.dup, 1) := by decide +kernel
theorem dX0_note_44 : decode cX0_note 44 = .ok (.getfield 39, 3) := by decide +kernel
theorem dX0_note_47 : decode cX0_note 47 = .ok (.iconst 1, 1) := by decide +kernel
theorem dX0_note_48 : decode cX0_note 48 = .ok (.iadd, 1) := by decide +kernel
theorem dX0_note_49 : decode cX0_note 49 = .ok (.putfield 39, 3) := by decide +kernel
theorem dX0_note_52 : decode cX0_note 52 = .ok (.return_, 1) := by decide +kernel
theorem dX0_placeOf_0 : decode cX0_placeOf 0 = .ok (.iload_n 0, 1) := by decide +kernel
theorem dX0_placeOf_1 : decode cX0_placeOf 1 = .ok (.iconst 3, 1) := by decide +kernel
theorem dX0_placeOf_2 : decode cX0_placeOf 2 = .ok (.iand, 1) := by decide +kernel
theorem dX0_placeOf_3 : decode cX0_placeOf 3 = .ok (.iconst 3, 1) := by decide +kernel
theorem dX0_placeOf_4 : decode cX0_placeOf 4 = .ok (.imul, 1) := by decide +kernel
theorem dX0_placeOf_5 : decode cX0_placeOf 5 = .ok (.ireturn, 1) := by decide +kernel
theorem dX0_decide_0 : decode cX0_decide 0 = .ok (.aload_n 0, 1) := by decide +kernel
theorem dX0_decide_1 : decode cX0_decide 1 = .ok (.getfield 39, 3) := by decide +kernel
theorem dX0_decide_4 : decode cX0_decide 4 = .ok (.iconst 1, 1) := by decide +kernel
theorem dX0_decide_5 : decode cX0_decide 5 = .ok (.isub, 1) := by decide +kernel
theorem dX0_decide_6 : decode cX0_decide 6 = .ok (.aload_n 0, 1) := by decide +kernel
theorem dX0_decide_7 : decode cX0_decide 7 = .ok (.getfield 26, 3) := by decide +kernel
theorem dX0_decide_10 : decode cX0_decide 10 = .ok (.isub, 1) := by decide +kernel
theorem dX0_decide_11 : decode cX0_decide 11 = .ok (.iconst 0, 1) := by decide +kernel
theorem dX0_decide_12 : decode cX0_decide 12 = .ok (.invokestatic 61, 3) := by decide +kernel
theorem dX0_decide_15 : decode cX0_decide 15 = .ok (.invokestatic 48, 3) := by decide +kernel
theorem dX0_decide_18 : decode cX0_decide 18 = .ok (.istore_n 2, 1) := by decide +kernel
theorem dX0_decide_19 : decode cX0_decide 19 = .ok (.aload_n 1, 1) := by decide +kernel
theorem dX0_decide_20 : decode cX0_decide 20 = .ok (.aload_n 0, 1) := by decide +kernel
theorem dX0_decide_21 : decode cX0_decide 21 = .ok (.getfield 9, 3) := by decide +kernel
theorem dX0_decide_24 : decode cX0_decide 24 = .ok (.iload_n 2, 1) := by decide +kernel
theorem dX0_decide_25 : decode cX0_decide 25 = .ok (.iaload, 1) := by decide +kernel
theorem dX0_decide_26 : decode cX0_decide 26 = .ok (.aload_n 0, 1) := by decide +kernel
theorem dX0_decide_27 : decode cX0_decide 27 = .ok (.getfield 9, 3) := by decide +kernel
theorem dX0_decide_30 : decode cX0_decide 30 = .ok (.iload_n 2, 1) := by decide +kernel
theorem dX0_decide_31 : decode cX0_decide 31 = .ok (.iconst 1, 1) := by decide +kernel
theorem dX0_decide_32 : decode cX0_decide 32 = .ok (.iadd, 1) := by decide +kernel
theorem dX0_decide_33 : decode cX0_decide 33 = .ok (.iaload, 1) := by decide +kernel
theorem dX0_decide_34 : decode cX0_decide 34 = .ok (.aload_n 0, 1) := by decide +kernel
theorem dX0_decide_35 : decode cX0_decide 35 = .ok (.getfield 9, 3) := by decide +kernel
theorem dX0_decide_38 : decode cX0_decide 38 = .ok (.iload_n 2, 1) := by decide +kernel
theorem dX0_decide_39 : decode cX0_decide 39 = .ok (.iconst 2, 1) := by decide +kernel
theorem dX0_decide_40 : decode cX0_decide 40 = .ok (.iadd, 1) := by decide +kernel
theorem dX0_decide_41 : decode cX0_decide 41 = .ok (.iaload, 1) := by decide +kernel
theorem dX0_decide_42 : decode cX0_decide 42 = .ok (.aload_n 0, 1) := by decide +kernel
theorem dX0_decide_43 : decode cX0_decide 43 = .ok (.getfield 20, 3) := by decide +kernel
theorem dX0_decide_46 : decode cX0_decide 46 = .ok (.invokevirtual 67, 3) := by decide +kernel
theorem dX0_decide_49 : decode cX0_decide 49 = .ok (.istore_n 3, 1) := by decide +kernel
theorem dX0_decide_50 : decode cX0_decide 50 = .ok (.aload_n 0, 1) := by decide +kernel
theorem dX0_decide_51 : decode cX0_decide 51 = .ok (.iload_n 3, 1) := by decide +kernel
theorem dX0_decide_52 : decode cX0_decide 52 = .ok (.ifCond .ge 10, 3) := by decide +kernel
theorem dX0_decide_55 : decode cX0_decide 55 = .ok (.aload_n 0, 1) := by decide +kernel
theorem dX0_decide_56 : decode cX0_decide 56 = .ok (.getfield 20, 3) := by decide +kernel
theorem dX0_decide_59 : decode cX0_decide 59 = .ok (.goto 12, 3) := by decide +kernel
theorem dX0_decide_62 : decode cX0_decide 62 = .ok (.aload_n 1, 1) := by decide +kernel
theorem dX0_decide_63 : decode cX0_decide 63 = .ok (.iload_n 3, 1) := by decide +kernel
theorem dX0_decide_64 : decode cX0_decide 64 = .ok (.aload_n 0, 1) := by decide +kernel
theorem dX0_decide_65 : decode cX0_decide 65 = .ok (.getfield 20, 3) := by decide +kernel
theorem dX0_decide_68 : decode cX0_decide 68 = .ok (.invokevirtual 73, 3) := by decide +kernel
theorem dX0_decide_71 : decode cX0_decide 71 = .ok (.putfield 76, 3) := by decide +kernel
theorem dX0_decide_74 : decode cX0_decide 74 = .ok (.aload_n 0, 1) := by decide +kernel
theorem dX0_decide_75 : decode cX0_decide 75 = .ok (.iload_n 3, 1) := by decide +kernel
theorem dX0_decide_76 : decode cX0_decide 76 = .ok (.ifCond .lt 15, 3) := by decide +kernel
theorem dX0_decide_79 : decode cX0_decide 79 = .ok (.aload_n 1, 1) := by decide +kernel
theorem dX0_decide_80 : decode cX0_decide 80 = .ok (.iload_n 3, 1) := by decide +kernel
theorem dX0_decide_81 : decode cX0_decide 81 = .ok (.invokevirtual 79, 3) := by decide +kernel
theorem dX0_decide_84 : decode cX0_decide 84 = .ok (.ifCond .eq 7, 3) := by decide +kernel
theorem dX0_decide_87 : decode cX0_decide 87 = .ok (.iconst 1, 1) := by decide +kernel
theorem dX0_decide_88 : decode cX0_decide 88 = .ok (.goto 4, 3) := by decide +kernel
theorem dX0_decide_91 : decode cX0_decide 91 = .ok (.iconst 0, 1) := by decide +kernel
theorem dX0_decide_92 : decode cX0_decide 92 = .ok (.putfield 83, 3) := by decide +kernel
theorem dX0_decide_95 : decode cX0_decide 95 = .ok (.return_, 1) := by decide +kernel
theorem dX0_settlePace_0 : decode cX0_settlePace 0 = .ok (.aload_n 0, 1) := by decide +kernel
theorem dX0_settlePace_1 : decode cX0_settlePace 1 = .ok (.aload_n 0, 1) := by decide +kernel
theorem dX0_settlePace_2 : decode cX0_settlePace 2 = .ok (.getfield 35, 3) := by decide +kernel
theorem dX0_settlePace_5 : decode cX0_settlePace 5 = .ok (.ifCond .eq 7, 3) := by decide +kernel
theorem dX0_settlePace_8 : decode cX0_settlePace 8 = .ok (.iconst 0, 1) := by decide +kernel
theorem dX0_settlePace_9 : decode cX0_settlePace 9 = .ok (.goto 22, 3) := by decide +kernel
theorem dX0_settlePace_12 : decode cX0_settlePace 12 = .ok (.iconst 0, 1) := by decide +kernel
theorem dX0_settlePace_13 : decode cX0_settlePace 13 = .ok (.aload_n 0, 1) := by decide +kernel
theorem dX0_settlePace_14 : decode cX0_settlePace 14 = .ok (.getfield 76, 3) := by decide +kernel
theorem dX0_settlePace_17 : decode cX0_settlePace 17 = .ok (.iload_n 1, 1) := by decide +kernel
theorem dX0_settlePace_18 : decode cX0_settlePace 18 = .ok (.aload_n 0, 1) := by decide +kernel
theorem dX0_settlePace_19 : decode cX0_settlePace 19 = .ok (.getfield 52, 3) := by decide +kernel
theorem dX0_settlePace_22 : decode cX0_settlePace 22 = .ok (.invokestatic 86, 3) := by decide +kernel
theorem dX0_settlePace_25 : decode cX0_settlePace 25 = .ok (.invokestatic 86, 3) := by decide +kernel
theorem dX0_settlePace_28 : decode cX0_settlePace 28 = .ok (.invokestatic 61, 3) := by decide +kernel
theorem dX0_settlePace_31 : decode cX0_settlePace 31 = .ok (.putfield 20, 3) := by decide +kernel
theorem dX0_settlePace_34 : decode cX0_settlePace 34 = .ok (.aload_n 0, 1) := by decide +kernel
theorem dX0_settlePace_35 : decode cX0_settlePace 35 = .ok (.iconst 0, 1) := by decide +kernel
theorem dX0_settlePace_36 : decode cX0_settlePace 36 = .ok (.putfield 35, 3) := by decide +kernel
theorem dX0_settlePace_39 : decode cX0_settlePace 39 = .ok (.return_, 1) := by decide +kernel
theorem dX0_isLike_0 : decode cX0_isLike 0 = .ok (.aload_n 0, 1) := by decide +kernel
theorem dX0_isLike_1 : decode cX0_isLike 1 = .ok (.getfield 17, 3) := by decide +kernel
theorem dX0_isLike_4 : decode cX0_isLike 4 = .ok (.aload_n 1, 1) := by decide +kernel
theorem dX0_isLike_5 : decode cX0_isLike 5 = .ok (.getfield 17, 3) := by decide +kernel
theorem dX0_isLike_8 : decode cX0_isLike 8 = .ok (.if_icmp .ne 37, 3) := by decide +kernel
theorem dX0_isLike_11 : decode cX0_isLike 11 = .ok (.aload_n 0, 1) := by decide +kernel
theorem dX0_isLike_12 : decode cX0_isLike 12 = .ok (.getfield 13, 3) := by decide +kernel
theorem dX0_isLike_15 : decode cX0_isLike 15 = .ok (.aload_n 1, 1) := by decide +kernel
theorem dX0_isLike_16 : decode cX0_isLike 16 = .ok (.getfield 13, 3) := by decide +kernel
theorem dX0_isLike_19 : decode cX0_isLike 19 = .ok (.if_icmp .ne 26, 3) := by decide +kernel
theorem dX0_isLike_22 : decode cX0_isLike 22 = .ok (.aload_n 0, 1) := by decide +kernel
theorem dX0_isLike_23 : decode cX0_isLike 23 = .ok (.getfield 20, 3) := by decide +kernel
theorem dX0_isLike_26 : decode cX0_isLike 26 = .ok (.aload_n 1, 1) := by decide +kernel
theorem dX0_isLike_27 : decode cX0_isLike 27 = .ok (.getfield 20, 3) := by decide +kernel
theorem dX0_isLike_30 : decode cX0_isLike 30 = .ok (.if_icmp .ne 15, 3) := by decide +kernel
theorem dX0_isLike_33 : decode cX0_isLike 33 = .ok (.aload_n 0, 1) := by decide +kernel
theorem dX0_isLike_34 : decode cX0_isLike 34 = .ok (.aload_n 1, 1) := by decide +kernel
theorem dX0_isLike_35 : decode cX0_isLike 35 = .ok (.invokevirtual 89, 3) := by decide +kernel
theorem dX0_isLike_38 : decode cX0_isLike 38 = .ok (.ifCond .eq 7, 3) := by decide +kernel
theorem dX0_isLike_41 : decode cX0_isLike 41 = .ok (.iconst 1, 1) := by decide +kernel
theorem dX0_isLike_42 : decode cX0_isLike 42 = .ok (.goto 4, 3) := by decide +kernel
theorem dX0_isLike_45 : decode cX0_isLike 45 = .ok (.iconst 0, 1) := by decide +kernel
theorem dX0_isLike_46 : decode cX0_isLike 46 = .ok (.ireturn, 1) := by decide +kernel
theorem dX0_remembersLike_0 : decode cX0_remembersLike 0 = .ok (.aload_n 0, 1) := by decide +kernel
theorem dX0_remembersLike_1 : decode cX0_remembersLike 1 = .ok (.getfield 26, 3) := by decide +kernel
theorem dX0_remembersLike_4 : decode cX0_remembersLike 4 = .ok (.aload_n 0, 1) := by decide +kernel
theorem dX0_remembersLike_5 : decode cX0_remembersLike 5 = .ok (.getfield 39, 3) := by decide +kernel
theorem dX0_remembersLike_8 : decode cX0_remembersLike 8 = .ok (.invokestatic 86, 3) := by decide +kernel
theorem dX0_remembersLike_11 : decode cX0_remembersLike 11 = .ok (.istore_n 2, 1) := by decide +kernel
theorem dX0_remembersLike_12 : decode cX0_remembersLike 12 = .ok (.iload_n 2, 1) := by decide +kernel
theorem dX0_remembersLike_13 : decode cX0_remembersLike 13 = .ok (.aload_n 1, 1) := by decide +kernel
theorem dX0_remembersLike_14 : decode cX0_remembersLike 14 = .ok (.getfield 26, 3) := by decide +kernel
theorem dX0_remembersLike_17 : decode cX0_remembersLike 17 = .ok (.aload_n 1, 1) := by decide +kernel
theorem dX0_remembersLike_18 : decode cX0_remembersLike 18 = .ok (.getfield 39, 3) := by decide +kernel
theorem dX0_remembersLike_21 : decode cX0_remembersLike 21 = .ok (.invokestatic 86, 3) := by decide +kernel
theorem dX0_remembersLike_24 : decode cX0_remembersLike 24 = .ok (.if_icmp .eq 5, 3) := by decide +kernel
theorem dX0_remembersLike_27 : decode cX0_remembersLike 27 = .ok (.iconst 0, 1) := by decide +kernel
theorem dX0_remembersLike_28 : decode cX0_remembersLike 28 = .ok (.ireturn, 1) := by decide +kernel
theorem dX0_remembersLike_29 : decode cX0_remembersLike 29 = .ok (.iconst 1, 1) := by decide +kernel
theorem dX0_remembersLike_30 : decode cX0_remembersLike 30 = .ok (.istore_n 3, 1) := by decide +kernel
theorem dX0_remembersLike_31 : decode cX0_remembersLike 31 = .ok (.iload_n 3, 1) := by decide +kernel
theorem dX0_remembersLike_32 : decode cX0_remembersLike 32 = .ok (.iload_n 2, 1) := by decide +kernel
theorem dX0_remembersLike_33 : decode cX0_remembersLike 33 = .ok (.if_icmp .gt 71, 3) := by decide +kernel
theorem dX0_remembersLike_36 : decode cX0_remembersLike 36 = .ok (.aload_n 0, 1) := by decide +kernel
theorem dX0_remembersLike_37 : decode cX0_remembersLike 37 = .ok (.getfield 39, 3) := by decide +kernel
theorem dX0_remembersLike_40 : decode cX0_remembersLike 40 = .ok (.iload_n 3, 1) := by decide +kernel
theorem dX0_remembersLike_41 : decode cX0_remembersLike 41 = .ok (.isub, 1) := by decide +kernel
theorem dX0_remembersLike_42 : decode cX0_remembersLike 42 = .ok (.invokestatic 48, 3) := by decide +kernel
theorem dX0_remembersLike_45 : decode cX0_remembersLike 45 = .ok (.istore 4, 2) := by decide +kernel
theorem dX0_remembersLike_47 : decode cX0_remembersLike 47 = .ok (.aload_n 1, 1) := by decide +kernel
theorem dX0_remembersLike_48 : decode cX0_remembersLike 48 = .ok (.getfield 39, 3) := by decide +kernel
theorem dX0_remembersLike_51 : decode cX0_remembersLike 51 = .ok (.iload_n 3, 1) := by decide +kernel
theorem dX0_remembersLike_52 : decode cX0_remembersLike 52 = .ok (.isub, 1) := by decide +kernel
theorem dX0_remembersLike_53 : decode cX0_remembersLike 53 = .ok (.invokestatic 48, 3) := by decide +kernel
theorem dX0_remembersLike_56 : decode cX0_remembersLike 56 = .ok (.istore 5, 2) := by decide +kernel
theorem dX0_remembersLike_58 : decode cX0_remembersLike 58 = .ok (.iconst 0, 1) := by decide +kernel
theorem dX0_remembersLike_59 : decode cX0_remembersLike 59 = .ok (.istore 6, 2) := by decide +kernel
theorem dX0_remembersLike_61 : decode cX0_remembersLike 61 = .ok (.iload 6, 2) := by decide +kernel
theorem dX0_remembersLike_63 : decode cX0_remembersLike 63 = .ok (.iconst 3, 1) := by decide +kernel
theorem dX0_remembersLike_64 : decode cX0_remembersLike 64 = .ok (.if_icmp .ge 34, 3) := by decide +kernel
theorem dX0_remembersLike_67 : decode cX0_remembersLike 67 = .ok (.aload_n 0, 1) := by decide +kernel
theorem dX0_remembersLike_68 : decode cX0_remembersLike 68 = .ok (.getfield 9, 3) := by decide +kernel
theorem dX0_remembersLike_71 : decode cX0_remembersLike 71 = .ok (.iload 4, 2) := by decide +kernel
theorem dX0_remembersLike_73 : decode cX0_remembersLike 73 = .ok (.iload 6, 2) := by decide +kernel
theorem dX0_remembersLike_75 : decode cX0_remembersLike 75 = .ok (.iadd, 1) := by decide +kernel
theorem dX0_remembersLike_76 : decode cX0_remembersLike 76 = .ok (.iaload, 1) := by decide +kernel
theorem dX0_remembersLike_77 : decode cX0_remembersLike 77 = .ok (.aload_n 1, 1) := by decide +kernel
theorem dX0_remembersLike_78 : decode cX0_remembersLike 78 = .ok (.getfield 9, 3) := by decide +kernel
theorem dX0_remembersLike_81 : decode cX0_remembersLike 81 = .ok (.iload 5, 2) := by decide +kernel
theorem dX0_remembersLike_83 : decode cX0_remembersLike 83 = .ok (.iload 6, 2) := by decide +kernel
theorem dX0_remembersLike_85 : decode cX0_remembersLike 85 = .ok (.iadd, 1) := by decide +kernel
theorem dX0_remembersLike_86 : decode cX0_remembersLike 86 = .ok (.iaload, 1) := by decide +kernel
theorem dX0_remembersLike_87 : decode cX0_remembersLike 87 = .ok (.if_icmp .eq 5, 3) := by decide +kernel
theorem dX0_remembersLike_90 : decode cX0_remembersLike 90 = .ok (.iconst 0, 1) := by decide +kernel
theorem dX0_remembersLike_91 : decode cX0_remembersLike 91 = .ok (.ireturn, 1) := by decide +kernel
theorem dX0_remembersLike_92 : decode cX0_remembersLike 92 = .ok (.iinc 6 1, 3) := by decide +kernel
theorem dX0_remembersLike_95 : decode cX0_remembersLike 95 = .ok (.goto (-34), 3) := by decide +kernel
theorem dX0_remembersLike_98 : decode cX0_remembersLike 98 = .ok (.iinc 3 1, 3) := by decide +kernel
theorem dX0_remembersLike_101 : decode cX0_remembersLike 101 = .ok (.goto (-70), 3) := by decide +kernel
theorem dX0_remembersLike_104 : decode cX0_remembersLike 104 = .ok (.iconst 1, 1) := by decide +kernel
theorem dX0_remembersLike_105 : decode cX0_remembersLike 105 = .ok (.ireturn, 1) := by decide +kernel
theorem dX1_init_0 : decode cX1_init 0 = .ok (.aload_n 0, 1) := by decide +kernel
theorem dX1_init_1 : decode cX1_init 1 = .ok (.invokespecial 3, 3) := by decide +kernel
theorem dX1_init_4 : decode cX1_init 4 = .ok (.aload_n 0, 1) := by decide +kernel
theorem dX1_init_5 : decode cX1_init 5 = .ok (.aload_n 1, 1) := by decide +kernel
theorem dX1_init_6 : decode cX1_init 6 = .ok (.getfield 9, 3) := by decide +kernel
theorem dX1_init_9 : decode cX1_init 9 = .ok (.putfield 15, 3) := by decide +kernel
theorem dX1_init_12 : decode cX1_init 12 = .ok (.aload_n 0, 1) := by decide +kernel
theorem dX1_init_13 : decode cX1_init 13 = .ok (.aload_n 1, 1) := by decide +kernel
theorem dX1_init_14 : decode cX1_init 14 = .ok (.getfield 18, 3) := by decide +kernel
theorem dX1_init_17 : decode cX1_init 17 = .ok (.aload_n 1, 1) := by decide +kernel
theorem dX1_init_18 : decode cX1_init 18 = .ok (.getfield 22, 3) := by decide +kernel
theorem dX1_init_21 : decode cX1_init 21 = .ok (.invokestatic 25, 3) := by decide +kernel
theorem dX1_init_24 : decode cX1_init 24 = .ok (.putfield 31, 3) := by decide +kernel
theorem dX1_init_27 : decode cX1_init 27 = .ok (.aload_n 0, 1) := by decide +kernel
theorem dX1_init_28 : decode cX1_init 28 = .ok (.aload_n 1, 1) := by decide +kernel
theorem dX1_init_29 : decode cX1_init 29 = .ok (.getfield 32, 3) := by decide +kernel
theorem dX1_init_32 : decode cX1_init 32 = .ok (.aload_n 1, 1) := by decide +kernel
theorem dX1_init_33 : decode cX1_init 33 = .ok (.getfield 22, 3) := by decide +kernel
theorem dX1_init_36 : decode cX1_init 36 = .ok (.invokestatic 25, 3) := by decide +kernel
theorem dX1_init_39 : decode cX1_init 39 = .ok (.putfield 35, 3) := by decide +kernel
theorem dX1_init_42 : decode cX1_init 42 = .ok (.aload_n 0, 1) := by decide +kernel
theorem dX1_init_43 : decode cX1_init 43 = .ok (.aload_n 1, 1) := by decide +kernel
theorem dX1_init_44 : decode cX1_init 44 = .ok (.getfield 36, 3) := by decide +kernel
theorem dX1_init_47 : decode cX1_init 47 = .ok (.aload_n 1, 1) := by decide +kernel
theorem dX1_init_48 : decode cX1_init 48 = .ok (.getfield 22, 3) := by decide +kernel
theorem dX1_init_51 : decode cX1_init 51 = .ok (.invokestatic 25, 3) := by decide +kernel
theorem dX1_init_54 : decode cX1_init 54 = .ok (.putfield 39, 3) := by decide +kernel
theorem dX1_init_57 : decode cX1_init 57 = .ok (.aload_n 0, 1) := by decide +kernel
theorem dX1_init_58 : decode cX1_init 58 = .ok (.aload_n 1, 1) := by decide +kernel
theorem dX1_init_59 : decode cX1_init 59 = .ok (.getfield 40, 3) := by decide +kernel
theorem dX1_init_62 : decode cX1_init 62 = .ok (.aload_n 1, 1) := by decide +kernel
theorem dX1_init_63 : decode cX1_init 63 = .ok (.getfield 22, 3) := by decide +kernel
theorem dX1_init_66 : decode cX1_init 66 = .ok (.invokestatic 25, 3) := by decide +kernel
theorem dX1_init_69 : decode cX1_init 69 = .ok (.putfield 43, 3) := by decide +kernel
theorem dX1_init_72 : decode cX1_init 72 = .ok (.aload_n 0, 1) := by decide +kernel
theorem dX1_init_73 : decode cX1_init 73 = .ok (.aload_n 1, 1) := by decide +kernel
theorem dX1_init_74 : decode cX1_init 74 = .ok (.getfield 44, 3) := by decide +kernel
theorem dX1_init_77 : decode cX1_init 77 = .ok (.aload_n 1, 1) := by decide +kernel
theorem dX1_init_78 : decode cX1_init 78 = .ok (.getfield 22, 3) := by decide +kernel
theorem dX1_init_81 : decode cX1_init 81 = .ok (.invokestatic 25, 3) := by decide +kernel
theorem dX1_init_84 : decode cX1_init 84 = .ok (.putfield 47, 3) := by decide +kernel
theorem dX1_init_87 : decode cX1_init 87 = .ok (.aload_n 0, 1) := by decide +kernel
theorem dX1_init_88 : decode cX1_init 88 = .ok (.aload_n 1, 1) := by decide +kernel
theorem dX1_init_89 : decode cX1_init 89 = .ok (.getfield 48, 3) := by decide +kernel
theorem dX1_init_92 : decode cX1_init 92 = .ok (.aload_n 1, 1) := by decide +kernel
theorem dX1_init_93 : decode cX1_init 93 = .ok (.getfield 9, 3) := by decide +kernel
theorem dX1_init_96 : decode cX1_init 96 = .ok (.invokestatic 25, 3) := by decide +kernel
theorem dX1_init_99 : decode cX1_init 99 = .ok (.putfield 51, 3) := by decide +kernel
theorem dX1_init_102 : decode cX1_init 102 = .ok (.aload_n 0, 1) := by decide +kernel
theorem dX1_init_103 : decode cX1_init 103 = .ok (.aload_n 1, 1) := by decide +kernel
theorem dX1_init_104 : decode cX1_init 104 = .ok (.getfield 52, 3) := by decide +kernel
theorem dX1_init_107 : decode cX1_init 107 = .ok (.aload_n 1, 1) := by decide +kernel
theorem dX1_init_108 : decode cX1_init 108 = .ok (.getfield 9, 3) := by decide +kernel
theorem dX1_init_111 : decode cX1_init 111 = .ok (.invokestatic 25, 3) := by decide +kernel
theorem dX1_init_114 : decode cX1_init 114 = .ok (.putfield 55, 3) := by decide +kernel
theorem dX1_init_117 : decode cX1_init 117 = .ok (.aload_n 0, 1) := by decide +kernel
theorem dX1_init_118 : decode cX1_init 118 = .ok (.aload_n 1, 1) := by decide +kernel
theorem dX1_init_119 : decode cX1_init 119 = .ok (.getfield 56, 3) := by decide +kernel
theorem dX1_init_122 : decode cX1_init 122 = .ok (.aload_n 1, 1) := by decide +kernel
theorem dX1_init_123 : decode cX1_init 123 = .ok (.getfield 9, 3) := by decide +kernel
theorem dX1_init_126 : decode cX1_init 126 = .ok (.invokestatic 25, 3) := by decide +kernel
theorem dX1_init_129 : decode cX1_init 129 = .ok (.putfield 59, 3) := by decide +kernel
theorem dX1_init_132 : decode cX1_init 132 = .ok (.return_, 1) := by decide +kernel
theorem dX1_clauseFor_0 : decode cX1_clauseFor 0 = .ok (.iconst 0, 1) := by decide +kernel
theorem dX1_clauseFor_1 : decode cX1_clauseFor 1 = .ok (.istore 5, 2) := by decide +kernel
theorem dX1_clauseFor_3 : decode cX1_clauseFor 3 = .ok (.iconst 0, 1) := by decide +kernel
theorem dX1_clauseFor_4 : decode cX1_clauseFor 4 = .ok (.istore 6, 2) := by decide +kernel
theorem dX1_clauseFor_6 : decode cX1_clauseFor 6 = .ok (.iload 6, 2) := by decide +kernel
theorem dX1_clauseFor_8 : decode cX1_clauseFor 8 = .ok (.aload_n 0, 1) := by decide +kernel
theorem dX1_clauseFor_9 : decode cX1_clauseFor 9 = .ok (.getfield 31, 3) := by decide +kernel
theorem dX1_clauseFor_12 : decode cX1_clauseFor 12 = .ok (.arraylength, 1) := by decide +kernel
theorem dX1_clauseFor_13 : decode cX1_clauseFor 13 = .ok (.if_icmp .ge 128, 3) := by decide +kernel
theorem dX1_clauseFor_16 : decode cX1_clauseFor 16 = .ok (.iload 5, 2) := by decide +kernel
theorem dX1_clauseFor_18 : decode cX1_clauseFor 18 = .ok (.ifCond .lt 123, 3) := by decide +kernel
theorem dX1_clauseFor_21 : decode cX1_clauseFor 21 = .ok (.iload 5, 2) := by decide +kernel
theorem dX1_clauseFor_23 : decode cX1_clauseFor 23 = .ok (.aload_n 0, 1) := by decide +kernel
theorem dX1_clauseFor_24 : decode cX1_clauseFor 24 = .ok (.getfield 31, 3) := by decide +kernel
theorem dX1_clauseFor_27 : decode cX1_clauseFor 27 = .ok (.arraylength, 1) := by decide +kernel
theorem dX1_clauseFor_28 : decode cX1_clauseFor 28 = .ok (.if_icmp .ge 113, 3) := by decide +kernel
theorem dX1_clauseFor_31 : decode cX1_clauseFor 31 = .ok (.iload 4, 2) := by decide +kernel
theorem dX1_clauseFor_33 : decode cX1_clauseFor 33 = .ok (.istore 7, 2) := by decide +kernel
theorem dX1_clauseFor_35 : decode cX1_clauseFor 35 = .ok (.aload_n 0, 1) := by decide +kernel
theorem dX1_clauseFor_36 : decode cX1_clauseFor 36 = .ok (.getfield 31, 3) := by decide +kernel
theorem dX1_clauseFor_39 : decode cX1_clauseFor 39 = .ok (.iload 5, 2) := by decide +kernel
theorem dX1_clauseFor_41 : decode cX1_clauseFor 41 = .ok (.iaload, 1) := by decide +kernel
theorem dX1_clauseFor_42 : decode cX1_clauseFor 42 = .ok (.lookupswitch 52 #[(100, 40), (103, 34), (111, 46)], 34) := by decide +kernel
theorem dX1_clauseFor_76 : decode cX1_clauseFor 76 = .ok (.iload_n 1, 1) := by decide +kernel
theorem dX1_clauseFor_77 : decode cX1_clauseFor 77 = .ok (.istore 7, 2) := by decide +kernel
theorem dX1_clauseFor_79 : decode cX1_clauseFor 79 = .ok (.goto 15, 3) := by decide +kernel
theorem dX1_clauseFor_82 : decode cX1_clauseFor 82 = .ok (.iload_n 2, 1) := by decide +kernel
theorem dX1_clauseFor_83 : decode cX1_clauseFor 83 = .ok (.istore 7, 2) := by decide +kernel
theorem dX1_clauseFor_85 : decode cX1_clauseFor 85 = .ok (.goto 9, 3) := by decide +kernel
theorem dX1_clauseFor_88 : decode cX1_clauseFor 88 = .ok (.iload_n 3, 1) := by decide +kernel
theorem dX1_clauseFor_89 : decode cX1_clauseFor 89 = .ok (.istore 7, 2) := by decide +kernel
theorem dX1_clauseFor_91 : decode cX1_clauseFor 91 = .ok (.goto 3, 3) := by decide +kernel
theorem dX1_clauseFor_94 : decode cX1_clauseFor 94 = .ok (.iload 7, 2) := by decide +kernel
theorem dX1_clauseFor_96 : decode cX1_clauseFor 96 = .ok (.aload_n 0, 1) := by decide +kernel
theorem dX1_clauseFor_97 : decode cX1_clauseFor 97 = .ok (.getfield 35, 3) := by decide +kernel
theorem dX1_clauseFor_100 : decode cX1_clauseFor 100 = .ok (.iload 5, 2) := by decide +kernel
theorem dX1_clauseFor_102 : decode cX1_clauseFor 102 = .ok (.iaload, 1) := by decide +kernel
theorem dX1_clauseFor_103 : decode cX1_clauseFor 103 = .ok (.aload_n 0, 1) := by decide +kernel
theorem dX1_clauseFor_104 : decode cX1_clauseFor 104 = .ok (.getfield 39, 3) := by decide +kernel
theorem dX1_clauseFor_107 : decode cX1_clauseFor 107 = .ok (.iload 5, 2) := by decide +kernel
theorem dX1_clauseFor_109 : decode cX1_clauseFor 109 = .ok (.iaload, 1) := by decide +kernel
theorem dX1_clauseFor_110 : decode cX1_clauseFor 110 = .ok (.invokestatic 60, 3) := by decide +kernel
theorem dX1_clauseFor_113 : decode cX1_clauseFor 113 = .ok (.ifCond .eq 13, 3) := by decide +kernel
theorem dX1_clauseFor_116 : decode cX1_clauseFor 116 = .ok (.aload_n 0, 1) := by decide +kernel
theorem dX1_clauseFor_117 : decode cX1_clauseFor 117 = .ok (.getfield 43, 3) := by decide +kernel
theorem dX1_clauseFor_120 : decode cX1_clauseFor 120 = .ok (.iload 5, 2) := by decide +kernel
theorem dX1_clauseFor_122 : decode cX1_clauseFor 122 = .ok (.iaload, 1) := by decide +kernel
theorem dX1_clauseFor_123 : decode cX1_clauseFor 123 = .ok (.goto 10, 3) := by decide +kernel
theorem dX1_clauseFor_126 : decode cX1_clauseFor 126 = .ok (.aload_n 0, 1) := by decide +kernel
theorem dX1_clauseFor_127 : decode cX1_clauseFor 127 = .ok (.getfield 47, 3) := by decide +kernel
theorem dX1_clauseFor_130 : decode cX1_clauseFor 130 = .ok (.iload 5, 2) := by decide +kernel
theorem dX1_clauseFor_132 : decode cX1_clauseFor 132 = .ok (.iaload, 1) := by decide +kernel
theorem dX1_clauseFor_133 : decode cX1_clauseFor 133 = .ok (.istore 5, 2) := by decide +kernel
theorem dX1_clauseFor_135 : decode cX1_clauseFor 135 = .ok (.iinc 6 1, 3) := by decide +kernel
theorem dX1_clauseFor_138 : decode cX1_clauseFor 138 = .ok (.goto (-132), 3) := by decide +kernel
theorem dX1_clauseFor_141 : decode cX1_clauseFor 141 = .ok (.iload 5, 2) := by decide +kernel
theorem dX1_clauseFor_143 : decode cX1_clauseFor 143 = .ok (.ifCond .ge 10, 3) := by decide +kernel
theorem dX1_clauseFor_146 : decode cX1_clauseFor 146 = .ok (.iload 5, 2) := by decide +kernel
theorem dX1_clauseFor_148 : decode cX1_clauseFor 148 = .ok (.iconst (-1), 1) := by decide +kernel
theorem dX1_clauseFor_149 : decode cX1_clauseFor 149 = .ok (.ixor, 1) := by decide +kernel
theorem dX1_clauseFor_150 : decode cX1_clauseFor 150 = .ok (.goto 5, 3) := by decide +kernel
theorem dX1_clauseFor_153 : decode cX1_clauseFor 153 = .ok (.bipush (-4), 2) := by decide +kernel
theorem dX1_clauseFor_155 : decode cX1_clauseFor 155 = .ok (.ireturn, 1) := by decide +kernel
theorem dX1_isSo_0 : decode cX1_isSo 0 = .ok (.iload_n 1, 1) := by decide +kernel
theorem dX1_isSo_1 : decode cX1_isSo 1 = .ok (.tableswitch 60 60 62 #[27, 49, 38], 27) := by decide +kernel
theorem dX1_isSo_28 : decode cX1_isSo 28 = .ok (.iload_n 0, 1) := by decide +kernel
theorem dX1_isSo_29 : decode cX1_isSo 29 = .ok (.iload_n 2, 1) := by decide +kernel
theorem dX1_isSo_30 : decode cX1_isSo 30 = .ok (.if_icmp .ge 7, 3) := by decide +kernel
theorem dX1_isSo_33 : decode cX1_isSo 33 = .ok (.iconst 1, 1) := by decide +kernel
theorem dX1_isSo_34 : decode cX1_isSo 34 = .ok (.goto 4, 3) := by decide +kernel
theorem dX1_isSo_37 : decode cX1_isSo 37 = .ok (.iconst 0, 1) := by decide +kernel
theorem dX1_isSo_38 : decode cX1_isSo 38 = .ok (.ireturn, 1) := by decide +kernel
theorem dX1_isSo_39 : decode cX1_isSo 39 = .ok (.iload_n 0, 1) := by decide +kernel
theorem dX1_isSo_40 : decode cX1_isSo 40 = .ok (.iload_n 2, 1) := by decide +kernel
theorem dX1_isSo_41 : decode cX1_isSo 41 = .ok (.if_icmp .le 7, 3) := by decide +kernel
theorem dX1_isSo_44 : decode cX1_isSo 44 = .ok (.iconst 1, 1) := by decide +kernel
theorem dX1_isSo_45 : decode cX1_isSo 45 = .ok (.goto 4, 3) := by decide +kernel
theorem dX1_isSo_48 : decode cX1_isSo 48 = .ok (.iconst 0, 1) := by decide +kernel
theorem dX1_isSo_49 : decode cX1_isSo 49 = .ok (.ireturn, 1) := by decide +kernel
theorem dX1_isSo_50 : decode cX1_isSo 50 = .ok (.iload_n 0, 1) := by decide +kernel
theorem dX1_isSo_51 : decode cX1_isSo 51 = .ok (.iload_n 2, 1) := by decide +kernel
theorem dX1_isSo_52 : decode cX1_isSo 52 = .ok (.if_icmp .ne 7, 3) := by decide +kernel
theorem dX1_isSo_55 : decode cX1_isSo 55 = .ok (.iconst 1, 1) := by decide +kernel
theorem dX1_isSo_56 : decode cX1_isSo 56 = .ok (.goto 4, 3) := by decide +kernel
theorem dX1_isSo_59 : decode cX1_isSo 59 = .ok (.iconst 0, 1) := by decide +kernel
theorem dX1_isSo_60 : decode cX1_isSo 60 = .ok (.ireturn, 1) := by decide +kernel
theorem dX1_isSo_61 : decode cX1_isSo 61 = .ok (.iconst 1, 1) := by decide +kernel
theorem dX1_isSo_62 : decode cX1_isSo 62 = .ok (.ireturn, 1) := by decide +kernel
theorem dX1_paceBy_0 : decode cX1_paceBy 0 = .ok (.aload_n 0, 1) := by decide +kernel
theorem dX1_paceBy_1 : decode cX1_paceBy 1 = .ok (.getfield 51, 3) := by decide +kernel
theorem dX1_paceBy_4 : decode cX1_paceBy 4 = .ok (.iload_n 1, 1) := by decide +kernel
theorem dX1_paceBy_5 : decode cX1_paceBy 5 = .ok (.iaload, 1) := by decide +kernel
theorem dX1_paceBy_6 : decode cX1_paceBy 6 = .ok (.lookupswitch 44 #[(43, 26), (45, 35)], 26) := by decide +kernel
theorem dX1_paceBy_32 : decode cX1_paceBy 32 = .ok (.iload_n 2, 1) := by decide +kernel
theorem dX1_paceBy_33 : decode cX1_paceBy 33 = .ok (.aload_n 0, 1) := by decide +kernel
theorem dX1_paceBy_34 : decode cX1_paceBy 34 = .ok (.getfield 55, 3) := by decide +kernel
theorem dX1_paceBy_37 : decode cX1_paceBy 37 = .ok (.iload_n 1, 1) := by decide +kernel
theorem dX1_paceBy_38 : decode cX1_paceBy 38 = .ok (.iaload, 1) := by decide +kernel
theorem dX1_paceBy_39 : decode cX1_paceBy 39 = .ok (.iadd, 1) := by decide +kernel
theorem dX1_paceBy_40 : decode cX1_paceBy 40 = .ok (.ireturn, 1) := by decide +kernel
theorem dX1_paceBy_41 : decode cX1_paceBy 41 = .ok (.iload_n 2, 1) := by decide +kernel
theorem dX1_paceBy_42 : decode cX1_paceBy 42 = .ok (.aload_n 0, 1) := by decide +kernel
theorem dX1_paceBy_43 : decode cX1_paceBy 43 = .ok (.getfield 55, 3) := by decide +kernel
theorem dX1_paceBy_46 : decode cX1_paceBy 46 = .ok (.iload_n 1, 1) := by decide +kernel
theorem dX1_paceBy_47 : decode cX1_paceBy 47 = .ok (.iaload, 1) := by decide +kernel
theorem dX1_paceBy_48 : decode cX1_paceBy 48 = .ok (.isub, 1) := by decide +kernel
theorem dX1_paceBy_49 : decode cX1_paceBy 49 = .ok (.ireturn, 1) := by decide +kernel
theorem dX1_paceBy_50 : decode cX1_paceBy 50 = .ok (.aload_n 0, 1) := by decide +kernel
theorem dX1_paceBy_51 : decode cX1_paceBy 51 = .ok (.getfield 55, 3) := by decide +kernel
theorem dX1_paceBy_54 : decode cX1_paceBy 54 = .ok (.iload_n 1, 1) := by decide +kernel
theorem dX1_paceBy_55 : decode cX1_paceBy 55 = .ok (.iaload, 1) := by decide +kernel
theorem dX1_paceBy_56 : decode cX1_paceBy 56 = .ok (.ireturn, 1) := by decide +kernel
theorem dX1_changesBy_0 : decode cX1_changesBy 0 = .ok (.aload_n 0, 1) := by decide +kernel
theorem dX1_changesBy_1 : decode cX1_changesBy 1 = .ok (.getfield 59, 3) := by decide +kernel
theorem dX1_changesBy_4 : decode cX1_changesBy 4 = .ok (.iload_n 1, 1) := by decide +kernel
theorem dX1_changesBy_5 : decode cX1_changesBy 5 = .ok (.iaload, 1) := by decide +kernel
theorem dX1_changesBy_6 : decode cX1_changesBy 6 = .ok (.iconst 1, 1) := by decide +kernel
theorem dX1_changesBy_7 : decode cX1_changesBy 7 = .ok (.if_icmp .ne 7, 3) := by decide +kernel
theorem dX1_changesBy_10 : decode cX1_changesBy 10 = .ok (.iconst 1, 1) := by decide +kernel
theorem dX1_changesBy_11 : decode cX1_changesBy 11 = .ok (.goto 4, 3) := by decide +kernel
theorem dX1_changesBy_14 : decode cX1_changesBy 14 = .ok (.iconst 0, 1) := by decide +kernel
theorem dX1_changesBy_15 : decode cX1_changesBy 15 = .ok (.ireturn, 1) := by decide +kernel
theorem dX2_init_0 : decode cX2_init 0 = .ok (.aload_n 0, 1) := by decide +kernel
theorem dX2_init_1 : decode cX2_init 1 = .ok (.invokespecial 3, 3) := by decide +kernel
theorem dX2_init_4 : decode cX2_init 4 = .ok (.aload_n 0, 1) := by decide +kernel
theorem dX2_init_5 : decode cX2_init 5 = .ok (.bipush 12, 2) := by decide +kernel
theorem dX2_init_7 : decode cX2_init 7 = .ok (.newarray .int, 2) := by decide +kernel
theorem dX2_init_9 : decode cX2_init 9 = .ok (.putfield 9, 3) := by decide +kernel
theorem dX2_init_12 : decode cX2_init 12 = .ok (.aload_n 0, 1) := by decide +kernel
theorem dX2_init_13 : decode cX2_init 13 = .ok (.bipush 12, 2) := by decide +kernel
theorem dX2_init_15 : decode cX2_init 15 = .ok (.newarray .int, 2) := by decide +kernel
theorem dX2_init_17 : decode cX2_init 17 = .ok (.putfield 15, 3) := by decide +kernel
theorem dX2_init_20 : decode cX2_init 20 = .ok (.aload_n 0, 1) := by decide +kernel
theorem dX2_init_21 : decode cX2_init 21 = .ok (.bipush 12, 2) := by decide +kernel
theorem dX2_init_23 : decode cX2_init 23 = .ok (.newarray .int, 2) := by decide +kernel
theorem dX2_init_25 : decode cX2_init 25 = .ok (.putfield 18, 3) := by decide +kernel
theorem dX2_init_28 : decode cX2_init 28 = .ok (.return_, 1) := by decide +kernel
theorem dX2_findIn_0 : decode cX2_findIn 0 = .ok (.aload_n 0, 1) := by decide +kernel
theorem dX2_findIn_1 : decode cX2_findIn 1 = .ok (.iconst 0, 1) := by decide +kernel
theorem dX2_findIn_2 : decode cX2_findIn 2 = .ok (.putfield 21, 3) := by decide +kernel
theorem dX2_findIn_5 : decode cX2_findIn 5 = .ok (.aload_n 1, 1) := by decide +kernel
theorem dX2_findIn_6 : decode cX2_findIn 6 = .ok (.invokevirtual 25, 3) := by decide +kernel
theorem dX2_findIn_9 : decode cX2_findIn 9 = .ok (.iconst 0, 1) := by decide +kernel
theorem dX2_findIn_10 : decode cX2_findIn 10 = .ok (.istore_n 2, 1) := by decide +kernel
theorem dX2_findIn_11 : decode cX2_findIn 11 = .ok (.iload_n 2, 1) := by decide +kernel
theorem dX2_findIn_12 : decode cX2_findIn 12 = .ok (.aload_n 1, 1) := by decide +kernel
theorem dX2_findIn_13 : decode cX2_findIn 13 = .ok (.getfield 30, 3) := by decide +kernel
theorem dX2_findIn_16 : decode cX2_findIn 16 = .ok (.if_icmp .ge 24, 3) := by decide +kernel
theorem dX2_findIn_19 : decode cX2_findIn 19 = .ok (.aload_n 0, 1) := by decide +kernel
theorem dX2_findIn_20 : decode cX2_findIn 20 = .ok (.getfield 18, 3) := by decide +kernel
theorem dX2_findIn_23 : decode cX2_findIn 23 = .ok (.aload_n 1, 1) := by decide +kernel
theorem dX2_findIn_24 : decode cX2_findIn 24 = .ok (.getfield 33, 3) := by decide +kernel
theorem dX2_findIn_27 : decode cX2_findIn 27 = .ok (.iload_n 2, 1) := by decide +kernel
theorem dX2_findIn_28 : decode cX2_findIn 28 = .ok (.aaload, 1) := by decide +kernel
theorem dX2_findIn_29 : decode cX2_findIn 29 = .ok (.getfield 37, 3) := by decide +kernel
theorem dX2_findIn_32 : decode cX2_findIn 32 = .ok (.iload_n 2, 1) := by decide +kernel
theorem dX2_findIn_33 : decode cX2_findIn 33 = .ok (.iastore, 1) := by decide +kernel
theorem dX2_findIn_34 : decode cX2_findIn 34 = .ok (.iinc 2 1, 3) := by decide +kernel
theorem dX2_findIn_37 : decode cX2_findIn 37 = .ok (.goto (-26), 3) := by decide +kernel
theorem dX2_findIn_40 : decode cX2_findIn 40 = .ok (.iconst 0, 1) := by decide +kernel
theorem dX2_findIn_41 : decode cX2_findIn 41 = .ok (.istore_n 2, 1) := by decide +kernel
theorem dX2_findIn_42 : decode cX2_findIn 42 = .ok (.iload_n 2, 1) := by decide +kernel
theorem dX2_findIn_43 : decode cX2_findIn 43 = .ok (.aload_n 1, 1) := by decide +kernel
theorem dX2_findIn_44 : decode cX2_findIn 44 = .ok (.getfield 30, 3) := by decide +kernel
theorem dX2_findIn_47 : decode cX2_findIn 47 = .ok (.if_icmp .ge 30, 3) := by decide +kernel
theorem dX2_findIn_50 : decode cX2_findIn 50 = .ok (.aload_n 0, 1) := by decide +kernel
theorem dX2_findIn_51 : decode cX2_findIn 51 = .ok (.aload_n 1, 1) := by decide +kernel
theorem dX2_findIn_52 : decode cX2_findIn 52 = .ok (.iload_n 2, 1) := by decide +kernel
theorem dX2_findIn_53 : decode cX2_findIn 53 = .ok (.invokevirtual 42, 3) := by decide +kernel
theorem dX2_findIn_56 : decode cX2_findIn 56 = .ok (.ifCond .eq 15, 3) := by decide +kernel
theorem dX2_findIn_59 : decode cX2_findIn 59 = .ok (.aload_n 0, 1) := by decide +kernel
theorem dX2_findIn_60 : decode cX2_findIn 60 = .ok (.aload_n 1, 1) := by decide +kernel
theorem dX2_findIn_61 : decode cX2_findIn 61 = .ok (.iload_n 2, 1) := by decide +kernel
theorem dX2_findIn_62 : decode cX2_findIn 62 = .ok (.aload_n 0, 1) := by decide +kernel
theorem dX2_findIn_63 : decode cX2_findIn 63 = .ok (.aload_n 1, 1) := by decide +kernel
theorem dX2_findIn_64 : decode cX2_findIn 64 = .ok (.iload_n 2, 1) := by decide +kernel
theorem dX2_findIn_65 : decode cX2_findIn 65 = .ok (.invokevirtual 46, 3) := by decide +kernel
theorem dX2_findIn_68 : decode cX2_findIn 68 = .ok (.invokevirtual 50, 3) := by decide +kernel
theorem dX2_findIn_71 : decode cX2_findIn 71 = .ok (.iinc 2 1, 3) := by decide +kernel
theorem dX2_findIn_74 : decode cX2_findIn 74 = .ok (.goto (-32), 3) := by decide +kernel
theorem dX2_findIn_77 : decode cX2_findIn 77 = .ok (.aload_n 0, 1) := by decide +kernel
theorem dX2_findIn_78 : decode cX2_findIn 78 = .ok (.getfield 21, 3) := by decide +kernel
theorem dX2_findIn_81 : decode cX2_findIn 81 = .ok (.ireturn, 1) := by decide +kernel
theorem dX2_carsIn_0 : decode cX2_carsIn 0 = .ok (.aload_n 0, 1) := by decide +kernel
theorem dX2_carsIn_1 : decode cX2_carsIn 1 = .ok (.aload_n 1, 1) := by decide +kernel
theorem dX2_carsIn_2 : decode cX2_carsIn 2 = .ok (.invokevirtual 54, 3) := by decide +kernel
theorem dX2_carsIn_5 : decode cX2_carsIn 5 = .ok (.pop, 1) := by decide +kernel
theorem dX2_carsIn_6 : decode cX2_carsIn 6 = .ok (.iconst 0, 1) := by decide +kernel
theorem dX2_carsIn_7 : decode cX2_carsIn 7 = .ok (.istore_n 2, 1) := by decide +kernel
theorem dX2_carsIn_8 : decode cX2_carsIn 8 = .ok (.iconst 0, 1) := by decide +kernel
theorem dX2_carsIn_9 : decode cX2_carsIn 9 = .ok (.istore_n 3, 1) := by decide +kernel
theorem dX2_carsIn_10 : decode cX2_carsIn 10 = .ok (.iload_n 3, 1) := by decide +kernel
theorem dX2_carsIn_11 : decode cX2_carsIn 11 = .ok (.aload_n 0, 1) := by decide +kernel
theorem dX2_carsIn_12 : decode cX2_carsIn 12 = .ok (.getfield 21, 3) := by decide +kernel
theorem dX2_carsIn_15 : decode cX2_carsIn 15 = .ok (.if_icmp .ge 18, 3) := by decide +kernel
theorem dX2_carsIn_18 : decode cX2_carsIn 18 = .ok (.iload_n 2, 1) := by decide +kernel
theorem dX2_carsIn_19 : decode cX2_carsIn 19 = .ok (.aload_n 0, 1) := by decide +kernel
theorem dX2_carsIn_20 : decode cX2_carsIn 20 = .ok (.getfield 15, 3) := by decide +kernel
theorem dX2_carsIn_23 : decode cX2_carsIn 23 = .ok (.iload_n 3, 1) := by decide +kernel
theorem dX2_carsIn_24 : decode cX2_carsIn 24 = .ok (.iaload, 1) := by decide +kernel
theorem dX2_carsIn_25 : decode cX2_carsIn 25 = .ok (.iadd, 1) := by decide +kernel
theorem dX2_carsIn_26 : decode cX2_carsIn 26 = .ok (.istore_n 2, 1) := by decide +kernel
theorem dX2_carsIn_27 : decode cX2_carsIn 27 = .ok (.iinc 3 1, 3) := by decide +kernel
theorem dX2_carsIn_30 : decode cX2_carsIn 30 = .ok (.goto (-20), 3) := by decide +kernel
theorem dX2_carsIn_33 : decode cX2_carsIn 33 = .ok (.iload_n 2, 1) := by decide +kernel
theorem dX2_carsIn_34 : decode cX2_carsIn 34 = .ok (.ireturn, 1) := by decide +kernel
theorem dX2_isHead_0 : decode cX2_isHead 0 = .ok (.aload_n 1, 1) := by decide +kernel
theorem dX2_isHead_1 : decode cX2_isHead 1 = .ok (.getfield 33, 3) := by decide +kernel
theorem dX2_isHead_4 : decode cX2_isHead 4 = .ok (.iload_n 2, 1) := by decide +kernel
theorem dX2_isHead_5 : decode cX2_isHead 5 = .ok (.aaload, 1) := by decide +kernel
theorem dX2_isHead_6 : decode cX2_isHead 6 = .ok (.getfield 58, 3) := by decide +kernel
theorem dX2_isHead_9 : decode cX2_isHead 9 = .ok (.iconst 1, 1) := by decide +kernel
theorem dX2_isHead_10 : decode cX2_isHead 10 = .ok (.if_icmp .le 5, 3) := by decide +kernel
theorem dX2_isHead_13 : decode cX2_isHead 13 = .ok (.iconst 0, 1) := by decide +kernel
theorem dX2_isHead_14 : decode cX2_isHead 14 = .ok (.ireturn, 1) := by decide +kernel
theorem dX2_isHead_15 : decode cX2_isHead 15 = .ok (.aload_n 1, 1) := by decide +kernel
theorem dX2_isHead_16 : decode cX2_isHead 16 = .ok (.getfield 33, 3) := by decide +kernel
theorem dX2_isHead_19 : decode cX2_isHead 19 = .ok (.aload_n 1, 1) := by decide +kernel
theorem dX2_isHead_20 : decode cX2_isHead 20 = .ok (.getfield 33, 3) := by decide +kernel
theorem dX2_isHead_23 : decode cX2_isHead 23 = .ok (.iload_n 2, 1) := by decide +kernel
theorem dX2_isHead_24 : decode cX2_isHead 24 = .ok (.aaload, 1) := by decide +kernel
theorem dX2_isHead_25 : decode cX2_isHead 25 = .ok (.getfield 37, 3) := by decide +kernel
theorem dX2_isHead_28 : decode cX2_isHead 28 = .ok (.aaload, 1) := by decide +kernel
theorem dX2_isHead_29 : decode cX2_isHead 29 = .ok (.getfield 58, 3) := by decide +kernel
theorem dX2_isHead_32 : decode cX2_isHead 32 = .ok (.iconst 1, 1) := by decide +kernel
theorem dX2_isHead_33 : decode cX2_isHead 33 = .ok (.if_icmp .gt 12, 3) := by decide +kernel
theorem dX2_isHead_36 : decode cX2_isHead 36 = .ok (.aload_n 0, 1) := by decide +kernel
theorem dX2_isHead_37 : decode cX2_isHead 37 = .ok (.aload_n 1, 1) := by decide +kernel
theorem dX2_isHead_38 : decode cX2_isHead 38 = .ok (.iload_n 2, 1) := by decide +kernel
theorem dX2_isHead_39 : decode cX2_isHead 39 = .ok (.invokevirtual 61, 3) := by decide +kernel
theorem dX2_isHead_42 : decode cX2_isHead 42 = .ok (.ifCond .eq 7, 3) := by decide +kernel
theorem dX2_isHead_45 : decode cX2_isHead 45 = .ok (.iconst 1, 1) := by decide +kernel
theorem dX2_isHead_46 : decode cX2_isHead 46 = .ok (.goto 4, 3) := by decide +kernel
theorem dX2_isHead_49 : decode cX2_isHead 49 = .ok (.iconst 0, 1) := by decide +kernel
theorem dX2_isHead_50 : decode cX2_isHead 50 = .ok (.ireturn, 1) := by decide +kernel
theorem dX2_isLeastOfSlowLane_0 : decode cX2_isLeastOfSlowLane 0 = .ok (.iconst 0, 1) := by decide +kernel
theorem dX2_isLeastOfSlowLane_1 : decode cX2_isLeastOfSlowLane 1 = .ok (.istore_n 3, 1) := by decide +kernel
theorem dX2_isLeastOfSlowLane_2 : decode cX2_isLeastOfSlowLane 2 = .ok (.iload_n 3, 1) := by decide +kernel
theorem dX2_isLeastOfSlowLane_3 : decode cX2_isLeastOfSlowLane 3 = .ok (.aload_n 1, 1) := by decide +kernel
theorem dX2_isLeastOfSlowLane_4 : decode cX2_isLeastOfSlowLane 4 = .ok (.getfield 30, 3) := by decide +kernel
theorem dX2_isLeastOfSlowLane_7 : decode cX2_isLeastOfSlowLane 7 = .ok (.if_icmp .ge 62, 3) := by decide +kernel
theorem dX2_isLeastOfSlowLane_10 : decode cX2_isLeastOfSlowLane 10 = .ok (.aload_n 1, 1) := by decide +kernel
theorem dX2_isLeastOfSlowLane_11 : decode cX2_isLeastOfSlowLane 11 = .ok (.getfield 33, 3) := by decide +kernel
theorem dX2_isLeastOfSlowLane_14 : decode cX2_isLeastOfSlowLane 14 = .ok (.iload_n 3, 1) := by decide +kernel
theorem dX2_isLeastOfSlowLane_15 : decode cX2_isLeastOfSlowLane 15 = .ok (.aaload, 1) := by decide +kernel
theorem dX2_isLeastOfSlowLane_16 : decode cX2_isLeastOfSlowLane 16 = .ok (.getfield 64, 3) := by decide +kernel
theorem dX2_isLeastOfSlowLane_19 : decode cX2_isLeastOfSlowLane 19 = .ok (.aload_n 1, 1) := by decide +kernel
theorem dX2_isLeastOfSlowLane_20 : decode cX2_isLeastOfSlowLane 20 = .ok (.getfield 33, 3) := by decide +kernel
theorem dX2_isLeastOfSlowLane_23 : decode cX2_isLeastOfSlowLane 23 = .ok (.iload_n 2, 1) := by decide +kernel
theorem dX2_isLeastOfSlowLane_24 : decode cX2_isLeastOfSlowLane 24 = .ok (.aaload, 1) := by decide +kernel
theorem dX2_isLeastOfSlowLane_25 : decode cX2_isLeastOfSlowLane 25 = .ok (.getfield 64, 3) := by decide +kernel
theorem dX2_isLeastOfSlowLane_28 : decode cX2_isLeastOfSlowLane 28 = .ok (.if_icmp .ne 7, 3) := by decide +kernel
theorem dX2_isLeastOfSlowLane_31 : decode cX2_isLeastOfSlowLane 31 = .ok (.iconst 1, 1) := by decide +kernel
theorem dX2_isLeastOfSlowLane_32 : decode cX2_isLeastOfSlowLane 32 = .ok (.goto 4, 3) := by decide +kernel
theorem dX2_isLeastOfSlowLane_35 : decode cX2_isLeastOfSlowLane 35 = .ok (.iconst 0, 1) := by decide +kernel
theorem dX2_isLeastOfSlowLane_36 : decode cX2_isLeastOfSlowLane 36 = .ok (.istore 4, 2) := by decide +kernel
theorem dX2_isLeastOfSlowLane_38 : decode cX2_isLeastOfSlowLane 38 = .ok (.iload 4, 2) := by decide +kernel
theorem dX2_isLeastOfSlowLane_40 : decode cX2_isLeastOfSlowLane 40 = .ok (.ifCond .eq 23, 3) := by decide +kernel
theorem dX2_isLeastOfSlowLane_43 : decode cX2_isLeastOfSlowLane 43 = .ok (.iload_n 3, 1) := by decide +kernel
theorem dX2_isLeastOfSlowLane_44 : decode cX2_isLeastOfSlowLane 44 = .ok (.iload_n 2, 1) := by decide +kernel
theorem dX2_isLeastOfSlowLane_45 : decode cX2_isLeastOfSlowLane 45 = .ok (.if_icmp .lt 16, 3) := by decide +kernel
theorem dX2_isLeastOfSlowLane_48 : decode cX2_isLeastOfSlowLane 48 = .ok (.aload_n 1, 1) := by decide +kernel
theorem dX2_isLeastOfSlowLane_49 : decode cX2_isLeastOfSlowLane 49 = .ok (.getfield 33, 3) := by decide +kernel
theorem dX2_isLeastOfSlowLane_52 : decode cX2_isLeastOfSlowLane 52 = .ok (.iload_n 3, 1) := by decide +kernel
theorem dX2_isLeastOfSlowLane_53 : decode cX2_isLeastOfSlowLane 53 = .ok (.aaload, 1) := by decide +kernel
theorem dX2_isLeastOfSlowLane_54 : decode cX2_isLeastOfSlowLane 54 = .ok (.getfield 58, 3) := by decide +kernel
theorem dX2_isLeastOfSlowLane_57 : decode cX2_isLeastOfSlowLane 57 = .ok (.iconst 1, 1) := by decide +kernel
theorem dX2_isLeastOfSlowLane_58 : decode cX2_isLeastOfSlowLane 58 = .ok (.if_icmp .le 5, 3) := by decide +kernel
theorem dX2_isLeastOfSlowLane_61 : decode cX2_isLeastOfSlowLane 61 = .ok (.iconst 0, 1) := by decide +kernel
theorem dX2_isLeastOfSlowLane_62 : decode cX2_isLeastOfSlowLane 62 = .ok (.ireturn, 1) := by decide +kernel
theorem dX2_isLeastOfSlowLane_63 : decode cX2_isLeastOfSlowLane 63 = .ok (.iinc 3 1, 3) := by decide +kernel
theorem dX2_isLeastOfSlowLane_66 : decode cX2_isLeastOfSlowLane 66 = .ok (.goto (-64), 3) := by decide +kernel
theorem dX2_isLeastOfSlowLane_69 : decode cX2_isLeastOfSlowLane 69 = .ok (.iconst 1, 1) := by decide +kernel
theorem dX2_isLeastOfSlowLane_70 : decode cX2_isLeastOfSlowLane 70 = .ok (.ireturn, 1) := by decide +kernel
theorem dX2_sizeBehind_0 : decode cX2_sizeBehind 0 = .ok (.iconst 1, 1) := by decide +kernel
theorem dX2_sizeBehind_1 : decode cX2_sizeBehind 1 = .ok (.istore_n 3, 1) := by decide +kernel
theorem dX2_sizeBehind_2 : decode cX2_sizeBehind 2 = .ok (.aload_n 0, 1) := by decide +kernel
theorem dX2_sizeBehind_3 : decode cX2_sizeBehind 3 = .ok (.getfield 18, 3) := by decide +kernel
theorem dX2_sizeBehind_6 : decode cX2_sizeBehind 6 = .ok (.iload_n 2, 1) := by decide +kernel
theorem dX2_sizeBehind_7 : decode cX2_sizeBehind 7 = .ok (.iaload, 1) := by decide +kernel
theorem dX2_sizeBehind_8 : decode cX2_sizeBehind 8 = .ok (.istore 4, 2) := by decide +kernel
theorem dX2_sizeBehind_10 : decode cX2_sizeBehind 10 = .ok (.iconst 0, 1) := by decide +kernel
theorem dX2_sizeBehind_11 : decode cX2_sizeBehind 11 = .ok (.istore 5, 2) := by decide +kernel
theorem dX2_sizeBehind_13 : decode cX2_sizeBehind 13 = .ok (.iload 5, 2) := by decide +kernel
theorem dX2_sizeBehind_15 : decode cX2_sizeBehind 15 = .ok (.aload_n 1, 1) := by decide +kernel
theorem dX2_sizeBehind_16 : decode cX2_sizeBehind 16 = .ok (.getfield 30, 3) := by decide +kernel
theorem dX2_sizeBehind_19 : decode cX2_sizeBehind 19 = .ok (.if_icmp .ge 41, 3) := by decide +kernel
theorem dX2_sizeBehind_22 : decode cX2_sizeBehind 22 = .ok (.iload 4, 2) := by decide +kernel
theorem dX2_sizeBehind_24 : decode cX2_sizeBehind 24 = .ok (.iload_n 2, 1) := by decide +kernel
theorem dX2_sizeBehind_25 : decode cX2_sizeBehind 25 = .ok (.if_icmp .eq 35, 3) := by decide +kernel
theorem dX2_sizeBehind_28 : decode cX2_sizeBehind 28 = .ok (.aload_n 1, 1) := by decide +kernel
theorem dX2_sizeBehind_29 : decode cX2_sizeBehind 29 = .ok (.getfield 33, 3) := by decide +kernel
theorem dX2_sizeBehind_32 : decode cX2_sizeBehind 32 = .ok (.iload 4, 2) := by decide +kernel
theorem dX2_sizeBehind_34 : decode cX2_sizeBehind 34 = .ok (.aaload, 1) := by decide +kernel
theorem dX2_sizeBehind_35 : decode cX2_sizeBehind 35 = .ok (.getfield 58, 3) := by decide +kernel
theorem dX2_sizeBehind_38 : decode cX2_sizeBehind 38 = .ok (.iconst 1, 1) := by decide +kernel
theorem dX2_sizeBehind_39 : decode cX2_sizeBehind 39 = .ok (.if_icmp .gt 21, 3) := by decide +kernel
theorem dX2_sizeBehind_42 : decode cX2_sizeBehind 42 = .ok (.iinc 3 1, 3) := by decide +kernel
theorem dX2_sizeBehind_45 : decode cX2_sizeBehind 45 = .ok (.aload_n 0, 1) := by decide +kernel
theorem dX2_sizeBehind_46 : decode cX2_sizeBehind 46 = .ok (.getfield 18, 3) := by decide +kernel
theorem dX2_sizeBehind_49 : decode cX2_sizeBehind 49 = .ok (.iload 4, 2) := by decide +kernel
theorem dX2_sizeBehind_51 : decode cX2_sizeBehind 51 = .ok (.iaload, 1) := by decide +kernel
theorem dX2_sizeBehind_52 : decode cX2_sizeBehind 52 = .ok (.istore 4, 2) := by decide +kernel
theorem dX2_sizeBehind_54 : decode cX2_sizeBehind 54 = .ok (.iinc 5 1, 3) := by decide +kernel
theorem dX2_sizeBehind_57 : decode cX2_sizeBehind 57 = .ok (.goto (-44), 3) := by decide +kernel
theorem dX2_sizeBehind_60 : decode cX2_sizeBehind 60 = .ok (.iload_n 3, 1) := by decide +kernel
theorem dX2_sizeBehind_61 : decode cX2_sizeBehind 61 = .ok (.ireturn, 1) := by decide +kernel
theorem dX2_insert_0 : decode cX2_insert 0 = .ok (.iload_n 3, 1) := by decide +kernel
theorem dX2_insert_1 : decode cX2_insert 1 = .ok (.iconst 2, 1) := by decide +kernel
theorem dX2_insert_2 : decode cX2_insert 2 = .ok (.if_icmp .ge 4, 3) := by decide +kernel
theorem dX2_insert_5 : decode cX2_insert 5 = .ok (.return_, 1) := by decide +kernel
theorem dX2_insert_6 : decode cX2_insert 6 = .ok (.aload_n 0, 1) := by decide +kernel
theorem dX2_insert_7 : decode cX2_insert 7 = .ok (.getfield 21, 3) := by decide +kernel
theorem dX2_insert_10 : decode cX2_insert 10 = .ok (.istore 4, 2) := by decide +kernel
theorem dX2_insert_12 : decode cX2_insert 12 = .ok (.iload 4, 2) := by decide +kernel
theorem dX2_insert_14 : decode cX2_insert 14 = .ok (.ifCond .le 67, 3) := by decide +kernel
theorem dX2_insert_17 : decode cX2_insert 17 = .ok (.aload_n 1, 1) := by decide +kernel
theorem dX2_insert_18 : decode cX2_insert 18 = .ok (.getfield 33, 3) := by decide +kernel
theorem dX2_insert_21 : decode cX2_insert 21 = .ok (.iload_n 2, 1) := by decide +kernel
theorem dX2_insert_22 : decode cX2_insert 22 = .ok (.aaload, 1) := by decide +kernel
theorem dX2_insert_23 : decode cX2_insert 23 = .ok (.aload_n 1, 1) := by decide +kernel
theorem dX2_insert_24 : decode cX2_insert 24 = .ok (.getfield 33, 3) := by decide +kernel
theorem dX2_insert_27 : decode cX2_insert 27 = .ok (.aload_n 0, 1) := by decide +kernel
theorem dX2_insert_28 : decode cX2_insert 28 = .ok (.getfield 9, 3) := by decide +kernel
theorem dX2_insert_31 : decode cX2_insert 31 = .ok (.iload 4, 2) := by decide +kernel
theorem dX2_insert_33 : decode cX2_insert 33 = .ok (.iconst 1, 1) := by decide +kernel
theorem dX2_insert_34 : decode cX2_insert 34 = .ok (.isub, 1) := by decide +kernel
theorem dX2_insert_35 : decode cX2_insert 35 = .ok (.iaload, 1) := by decide +kernel
theorem dX2_insert_36 : decode cX2_insert 36 = .ok (.aaload, 1) := by decide +kernel
theorem dX2_insert_37 : decode cX2_insert 37 = .ok (.invokestatic 67, 3) := by decide +kernel
theorem dX2_insert_40 : decode cX2_insert 40 = .ok (.ifCond .eq 41, 3) := by decide +kernel
theorem dX2_insert_43 : decode cX2_insert 43 = .ok (.aload_n 0, 1) := by decide +kernel
theorem dX2_insert_44 : decode cX2_insert 44 = .ok (.getfield 9, 3) := by decide +kernel
theorem dX2_insert_47 : decode cX2_insert 47 = .ok (.iload 4, 2) := by decide +kernel
theorem dX2_insert_49 : decode cX2_insert 49 = .ok (.aload_n 0, 1) := by decide +kernel
theorem dX2_insert_50 : decode cX2_insert 50 = .ok (.getfield 9, 3) := by decide +kernel
theorem dX2_insert_53 : decode cX2_insert 53 = .ok (.iload 4, 2) := by decide +kernel
theorem dX2_insert_55 : decode cX2_insert 55 = .ok (.iconst 1, 1) := by decide +kernel
theorem dX2_insert_56 : decode cX2_insert 56 = .ok (.isub, 1) := by decide +kernel
theorem dX2_insert_57 : decode cX2_insert 57 = .ok (.iaload, 1) := by decide +kernel
theorem dX2_insert_58 : decode cX2_insert 58 = .ok (.iastore, 1) := by decide +kernel
theorem dX2_insert_59 : decode cX2_insert 59 = .ok (.aload_n 0, 1) := by decide +kernel
theorem dX2_insert_60 : decode cX2_insert 60 = .ok (.getfield 15, 3) := by decide +kernel
theorem dX2_insert_63 : decode cX2_insert 63 = .ok (.iload 4, 2) := by decide +kernel
theorem dX2_insert_65 : decode cX2_insert 65 = .ok (.aload_n 0, 1) := by decide +kernel
theorem dX2_insert_66 : decode cX2_insert 66 = .ok (.getfield 15, 3) := by decide +kernel
theorem dX2_insert_69 : decode cX2_insert 69 = .ok (.iload 4, 2) := by decide +kernel
theorem dX2_insert_71 : decode cX2_insert 71 = .ok (.iconst 1, 1) := by decide +kernel
theorem dX2_insert_72 : decode cX2_insert 72 = .ok (.isub, 1) := by decide +kernel
theorem dX2_insert_73 : decode cX2_insert 73 = .ok (.iaload, 1) := by decide +kernel
theorem dX2_insert_74 : decode cX2_insert 74 = .ok (.iastore, 1) := by decide +kernel
theorem dX2_insert_75 : decode cX2_insert 75 = .ok (.iinc 4 (-1), 3) := by decide +kernel
theorem dX2_insert_78 : decode cX2_insert 78 = .ok (.goto (-66), 3) := by decide +kernel
theorem dX2_insert_81 : decode cX2_insert 81 = .ok (.aload_n 0, 1) := by decide +kernel
theorem dX2_insert_82 : decode cX2_insert 82 = .ok (.getfield 9, 3) := by decide +kernel
theorem dX2_insert_85 : decode cX2_insert 85 = .ok (.iload 4, 2) := by decide +kernel
theorem dX2_insert_87 : decode cX2_insert 87 = .ok (.iload_n 2, 1) := by decide +kernel
theorem dX2_insert_88 : decode cX2_insert 88 = .ok (.iastore, 1) := by decide +kernel
theorem dX2_insert_89 : decode cX2_insert 89 = .ok (.aload_n 0, 1) := by decide +kernel
theorem dX2_insert_90 : decode cX2_insert 90 = .ok (.getfield 15, 3) := by decide +kernel
theorem dX2_insert_93 : decode cX2_insert 93 = .ok (.iload 4, 2) := by decide +kernel
theorem dX2_insert_95 : decode cX2_insert 95 = .ok (.iload_n 3, 1) := by decide +kernel
theorem dX2_insert_96 : decode cX2_insert 96 = .ok (.iastore, 1) := by decide +kernel
theorem dX2_insert_97 : decode cX2_insert 97 = .ok (.aload_n 0, 1) := by decide +kernel
theorem dX2_insert_98 : decode cX2_insert 98 = .ok (.dup, 1) := by decide +kernel
theorem dX2_insert_99 : decode cX2_insert 99 = .ok (.getfield 21, 3) := by decide +kernel
theorem dX2_insert_102 : decode cX2_insert 102 = .ok (.iconst 1, 1) := by decide +kernel
theorem dX2_insert_103 : decode cX2_insert 103 = .ok (.iadd, 1) := by decide +kernel
theorem dX2_insert_104 : decode cX2_insert 104 = .ok (.putfield 21, 3) := by decide +kernel
theorem dX2_insert_107 : decode cX2_insert 107 = .ok (.return_, 1) := by decide +kernel
theorem dX2_comesAhead_0 : decode cX2_comesAhead 0 = .ok (.aload_n 0, 1) := by decide +kernel
theorem dX2_comesAhead_1 : decode cX2_comesAhead 1 = .ok (.getfield 71, 3) := by decide +kernel
theorem dX2_comesAhead_4 : decode cX2_comesAhead 4 = .ok (.aload_n 1, 1) := by decide +kernel
theorem dX2_comesAhead_5 : decode cX2_comesAhead 5 = .ok (.getfield 71, 3) := by decide +kernel
theorem dX2_comesAhead_8 : decode cX2_comesAhead 8 = .ok (.if_icmp .eq 22, 3) := by decide +kernel
theorem dX2_comesAhead_11 : decode cX2_comesAhead 11 = .ok (.aload_n 0, 1) := by decide +kernel
theorem dX2_comesAhead_12 : decode cX2_comesAhead 12 = .ok (.getfield 71, 3) := by decide +kernel
theorem dX2_comesAhead_15 : decode cX2_comesAhead 15 = .ok (.aload_n 1, 1) := by decide +kernel
theorem dX2_comesAhead_16 : decode cX2_comesAhead 16 = .ok (.getfield 71, 3) := by decide +kernel
theorem dX2_comesAhead_19 : decode cX2_comesAhead 19 = .ok (.if_icmp .ge 7, 3) := by decide +kernel
theorem dX2_comesAhead_22 : decode cX2_comesAhead 22 = .ok (.iconst 1, 1) := by decide +kernel
theorem dX2_comesAhead_23 : decode cX2_comesAhead 23 = .ok (.goto 23, 3) := by decide +kernel
theorem dX2_comesAhead_26 : decode cX2_comesAhead 26 = .ok (.iconst 0, 1) := by decide +kernel
theorem dX2_comesAhead_27 : decode cX2_comesAhead 27 = .ok (.goto 19, 3) := by decide +kernel
theorem dX2_comesAhead_30 : decode cX2_comesAhead 30 = .ok (.aload_n 0, 1) := by decide +kernel
theorem dX2_comesAhead_31 : decode cX2_comesAhead 31 = .ok (.getfield 64, 3) := by decide +kernel
theorem dX2_comesAhead_34 : decode cX2_comesAhead 34 = .ok (.aload_n 1, 1) := by decide +kernel
theorem dX2_comesAhead_35 : decode cX2_comesAhead 35 = .ok (.getfield 64, 3) := by decide +kernel
theorem dX2_comesAhead_38 : decode cX2_comesAhead 38 = .ok (.if_icmp .ge 7, 3) := by decide +kernel
theorem dX2_comesAhead_41 : decode cX2_comesAhead 41 = .ok (.iconst 1, 1) := by decide +kernel
theorem dX2_comesAhead_42 : decode cX2_comesAhead 42 = .ok (.goto 4, 3) := by decide +kernel
theorem dX2_comesAhead_45 : decode cX2_comesAhead 45 = .ok (.iconst 0, 1) := by decide +kernel
theorem dX2_comesAhead_46 : decode cX2_comesAhead 46 = .ok (.ireturn, 1) := by decide +kernel
theorem dX3_init_0 : decode cX3_init 0 = .ok (.aload_n 0, 1) := by decide +kernel
theorem dX3_init_1 : decode cX3_init 1 = .ok (.invokespecial 3, 3) := by decide +kernel
theorem dX3_init_4 : decode cX3_init 4 = .ok (.aload_n 0, 1) := by decide +kernel
theorem dX3_init_5 : decode cX3_init 5 = .ok (.bipush 100, 2) := by decide +kernel
theorem dX3_init_7 : decode cX3_init 7 = .ok (.newarray .int, 2) := by decide +kernel
theorem dX3_init_9 : decode cX3_init 9 = .ok (.putfield 9, 3) := by decide +kernel
theorem dX3_init_12 : decode cX3_init 12 = .ok (.aload_n 0, 1) := by decide +kernel
theorem dX3_init_13 : decode cX3_init 13 = .ok (.iconst 0, 1) := by decide +kernel
theorem dX3_init_14 : decode cX3_init 14 = .ok (.putfield 15, 3) := by decide +kernel
theorem dX3_init_17 : decode cX3_init 17 = .ok (.aload_n 0, 1) := by decide +kernel
theorem dX3_init_18 : decode cX3_init 18 = .ok (.iconst 0, 1) := by decide +kernel
theorem dX3_init_19 : decode cX3_init 19 = .ok (.putfield 19, 3) := by decide +kernel
theorem dX3_init_22 : decode cX3_init 22 = .ok (.aload_n 0, 1) := by decide +kernel
theorem dX3_init_23 : decode cX3_init 23 = .ok (.iconst 0, 1) := by decide +kernel
theorem dX3_init_24 : decode cX3_init 24 = .ok (.putfield 22, 3) := by decide +kernel
theorem dX3_init_27 : decode cX3_init 27 = .ok (.aload_n 0, 1) := by decide +kernel
theorem dX3_init_28 : decode cX3_init 28 = .ok (.iconst 0, 1) := by decide +kernel
theorem dX3_init_29 : decode cX3_init 29 = .ok (.putfield 25, 3) := by decide +kernel
theorem dX3_init_32 : decode cX3_init 32 = .ok (.aload_n 0, 1) := by decide +kernel
theorem dX3_init_33 : decode cX3_init 33 = .ok (.iconst 0, 1) := by decide +kernel
theorem dX3_init_34 : decode cX3_init 34 = .ok (.putfield 28, 3) := by decide +kernel
theorem dX3_init_37 : decode cX3_init 37 = .ok (.aload_n 0, 1) := by decide +kernel
theorem dX3_init_38 : decode cX3_init 38 = .ok (.bipush 100, 2) := by decide +kernel
theorem dX3_init_40 : decode cX3_init 40 = .ok (.newarray .int, 2) := by decide +kernel
theorem dX3_init_42 : decode cX3_init 42 = .ok (.putfield 31, 3) := by decide +kernel
theorem dX3_init_45 : decode cX3_init 45 = .ok (.aload_n 0, 1) := by decide +kernel
theorem dX3_init_46 : decode cX3_init 46 = .ok (.bipush 100, 2) := by decide +kernel
theorem dX3_init_48 : decode cX3_init 48 = .ok (.newarray .int, 2) := by decide +kernel
theorem dX3_init_50 : decode cX3_init 50 = .ok (.putfield 34, 3) := by decide +kernel
theorem dX3_init_53 : decode cX3_init 53 = .ok (.aload_n 0, 1) := by decide +kernel
theorem dX3_init_54 : decode cX3_init 54 = .ok (.bipush 100, 2) := by decide +kernel
theorem dX3_init_56 : decode cX3_init 56 = .ok (.newarray .int, 2) := by decide +kernel
theorem dX3_init_58 : decode cX3_init 58 = .ok (.putfield 37, 3) := by decide +kernel
theorem dX3_init_61 : decode cX3_init 61 = .ok (.aload_n 0, 1) := by decide +kernel
theorem dX3_init_62 : decode cX3_init 62 = .ok (.bipush 100, 2) := by decide +kernel
theorem dX3_init_64 : decode cX3_init 64 = .ok (.newarray .int, 2) := by decide +kernel
theorem dX3_init_66 : decode cX3_init 66 = .ok (.putfield 40, 3) := by decide +kernel
theorem dX3_init_69 : decode cX3_init 69 = .ok (.aload_n 0, 1) := by decide +kernel
theorem dX3_init_70 : decode cX3_init 70 = .ok (.bipush 100, 2) := by decide +kernel
theorem dX3_init_72 : decode cX3_init 72 = .ok (.newarray .int, 2) := by decide +kernel
theorem dX3_init_74 : decode cX3_init 74 = .ok (.putfield 43, 3) := by decide +kernel
theorem dX3_init_77 : decode cX3_init 77 = .ok (.aload_n 0, 1) := by decide +kernel
theorem dX3_init_78 : decode cX3_init 78 = .ok (.bipush 6, 2) := by decide +kernel
theorem dX3_init_80 : decode cX3_init 80 = .ok (.newarray .int, 2) := by decide +kernel
theorem dX3_init_82 : decode cX3_init 82 = .ok (.putfield 46, 3) := by decide +kernel
theorem dX3_init_85 : decode cX3_init 85 = .ok (.aload_n 0, 1) := by decide +kernel
theorem dX3_init_86 : decode cX3_init 86 = .ok (.bipush 6, 2) := by decide +kernel
theorem dX3_init_88 : decode cX3_init 88 = .ok (.newarray .int, 2) := by decide +kernel
theorem dX3_init_90 : decode cX3_init 90 = .ok (.putfield 49, 3) := by decide +kernel
theorem dX3_init_93 : decode cX3_init 93 = .ok (.aload_n 0, 1) := by decide +kernel
theorem dX3_init_94 : decode cX3_init 94 = .ok (.bipush 6, 2) := by decide +kernel
theorem dX3_init_96 : decode cX3_init 96 = .ok (.newarray .int, 2) := by decide +kernel
theorem dX3_init_98 : decode cX3_init 98 = .ok (.putfield 52, 3) := by decide +kernel
theorem dX3_init_101 : decode cX3_init 101 = .ok (.aload_n 0, 1) := by decide +kernel
theorem dX3_init_102 : decode cX3_init 102 = .ok (.sipush 214, 3) := by decide +kernel
theorem dX3_init_105 : decode cX3_init 105 = .ok (.newarray .int, 2) := by decide +kernel
theorem dX3_init_107 : decode cX3_init 107 = .ok (.putfield 55, 3) := by decide +kernel
theorem dX3_init_110 : decode cX3_init 110 = .ok (.aload_n 0, 1) := by decide +kernel
theorem dX3_init_111 : decode cX3_init 111 = .ok (.sipush 214, 3) := by decide +kernel
theorem dX3_init_114 : decode cX3_init 114 = .ok (.newarray .int, 2) := by decide +kernel
theorem dX3_init_116 : decode cX3_init 116 = .ok (.putfield 58, 3) := by decide +kernel
theorem dX3_init_119 : decode cX3_init 119 = .ok (.return_, 1) := by decide +kernel
theorem dX3_append_0 : decode cX3_append 0 = .ok (.aload_n 0, 1) := by decide +kernel
theorem dX3_append_1 : decode cX3_append 1 = .ok (.getfield 15, 3) := by decide +kernel
theorem dX3_append_4 : decode cX3_append 4 = .ok (.bipush 100, 2) := by decide +kernel
theorem dX3_append_6 : decode cX3_append 6 = .ok (.if_icmp .ge 23, 3) := by decide +kernel
