theorem dX4_takeBoardsAndLoops_107 : decode cX4_takeBoardsAndLoops 107 = .ok (.aload_n 1, 1) := by decide +kernel
theorem dX4_takeBoardsAndLoops_108 : decode cX4_takeBoardsAndLoops 108 = .ok (.getfield 61, 3) := by decide +kernel
theorem dX4_takeBoardsAndLoops_111 : decode cX4_takeBoardsAndLoops 111 = .ok (.iload_n 2, 1) := by decide +kernel
theorem dX4_takeBoardsAndLoops_112 : decode cX4_takeBoardsAndLoops 112 = .ok (.iaload, 1) := by decide +kernel
theorem dX4_takeBoardsAndLoops_113 : decode cX4_takeBoardsAndLoops 113 = .ok (.iastore, 1) := by decide +kernel
theorem dX4_takeBoardsAndLoops_114 : decode cX4_takeBoardsAndLoops 114 = .ok (.iinc 2 1, 3) := by decide +kernel
theorem dX4_takeBoardsAndLoops_117 : decode cX4_takeBoardsAndLoops 117 = .ok (.goto (-47), 3) := by decide +kernel
theorem dX4_takeBoardsAndLoops_120 : decode cX4_takeBoardsAndLoops 120 = .ok (.return_, 1) := by decide +kernel
theorem dX4_addCar_0 : decode cX4_addCar 0 = .ok (.aload_n 0, 1) := by decide +kernel
theorem dX4_addCar_1 : decode cX4_addCar 1 = .ok (.getfield 35, 3) := by decide +kernel
theorem dX4_addCar_4 : decode cX4_addCar 4 = .ok (.aload_n 0, 1) := by decide +kernel
theorem dX4_addCar_5 : decode cX4_addCar 5 = .ok (.getfield 24, 3) := by decide +kernel
theorem dX4_addCar_8 : decode cX4_addCar 8 = .ok (.aaload, 1) := by decide +kernel
theorem dX4_addCar_9 : decode cX4_addCar 9 = .ok (.iload_n 1, 1) := by decide +kernel
theorem dX4_addCar_10 : decode cX4_addCar 10 = .ok (.iload_n 2, 1) := by decide +kernel
theorem dX4_addCar_11 : decode cX4_addCar 11 = .ok (.iload_n 3, 1) := by decide +kernel
theorem dX4_addCar_12 : decode cX4_addCar 12 = .ok (.invokevirtual 73, 3) := by decide +kernel
theorem dX4_addCar_15 : decode cX4_addCar 15 = .ok (.aload_n 0, 1) := by decide +kernel
theorem dX4_addCar_16 : decode cX4_addCar 16 = .ok (.dup, 1) := by decide +kernel
theorem dX4_addCar_17 : decode cX4_addCar 17 = .ok (.getfield 24, 3) := by decide +kernel
theorem dX4_addCar_20 : decode cX4_addCar 20 = .ok (.dup_x1, 1) := by decide +kernel
theorem dX4_addCar_21 : decode cX4_addCar 21 = .ok (.iconst 1, 1) := by decide +kernel
theorem dX4_addCar_22 : decode cX4_addCar 22 = .ok (.iadd, 1) := by decide +kernel
theorem dX4_addCar_23 : decode cX4_addCar 23 = .ok (.putfield 24, 3) := by decide +kernel
theorem dX4_addCar_26 : decode cX4_addCar 26 = .ok (.ireturn, 1) := by decide +kernel
theorem dX4_addBoard_0 : decode cX4_addBoard 0 = .ok (.aload_n 0, 1) := by decide +kernel
theorem dX4_addBoard_1 : decode cX4_addBoard 1 = .ok (.getfield 45, 3) := by decide +kernel
theorem dX4_addBoard_4 : decode cX4_addBoard 4 = .ok (.aload_n 0, 1) := by decide +kernel
theorem dX4_addBoard_5 : decode cX4_addBoard 5 = .ok (.getfield 27, 3) := by decide +kernel
theorem dX4_addBoard_8 : decode cX4_addBoard 8 = .ok (.iload_n 1, 1) := by decide +kernel
theorem dX4_addBoard_9 : decode cX4_addBoard 9 = .ok (.iastore, 1) := by decide +kernel
theorem dX4_addBoard_10 : decode cX4_addBoard 10 = .ok (.aload_n 0, 1) := by decide +kernel
theorem dX4_addBoard_11 : decode cX4_addBoard 11 = .ok (.getfield 49, 3) := by decide +kernel
theorem dX4_addBoard_14 : decode cX4_addBoard 14 = .ok (.aload_n 0, 1) := by decide +kernel
theorem dX4_addBoard_15 : decode cX4_addBoard 15 = .ok (.getfield 27, 3) := by decide +kernel
theorem dX4_addBoard_18 : decode cX4_addBoard 18 = .ok (.iload_n 2, 1) := by decide +kernel
theorem dX4_addBoard_19 : decode cX4_addBoard 19 = .ok (.iastore, 1) := by decide +kernel
theorem dX4_addBoard_20 : decode cX4_addBoard 20 = .ok (.aload_n 0, 1) := by decide +kernel
theorem dX4_addBoard_21 : decode cX4_addBoard 21 = .ok (.getfield 52, 3) := by decide +kernel
theorem dX4_addBoard_24 : decode cX4_addBoard 24 = .ok (.aload_n 0, 1) := by decide +kernel
theorem dX4_addBoard_25 : decode cX4_addBoard 25 = .ok (.getfield 27, 3) := by decide +kernel
theorem dX4_addBoard_28 : decode cX4_addBoard 28 = .ok (.iload_n 3, 1) := by decide +kernel
theorem dX4_addBoard_29 : decode cX4_addBoard 29 = .ok (.iastore, 1) := by decide +kernel
theorem dX4_addBoard_30 : decode cX4_addBoard 30 = .ok (.aload_n 0, 1) := by decide +kernel
theorem dX4_addBoard_31 : decode cX4_addBoard 31 = .ok (.dup, 1) := by decide +kernel
theorem dX4_addBoard_32 : decode cX4_addBoard 32 = .ok (.getfield 27, 3) := by decide +kernel
theorem dX4_addBoard_35 : decode cX4_addBoard 35 = .ok (.dup_x1, 1) := by decide +kernel
theorem dX4_addBoard_36 : decode cX4_addBoard 36 = .ok (.iconst 1, 1) := by decide +kernel
theorem dX4_addBoard_37 : decode cX4_addBoard 37 = .ok (.iadd, 1) := by decide +kernel
theorem dX4_addBoard_38 : decode cX4_addBoard 38 = .ok (.putfield 27, 3) := by decide +kernel
theorem dX4_addBoard_41 : decode cX4_addBoard 41 = .ok (.ireturn, 1) := by decide +kernel
theorem dX4_addLoop_0 : decode cX4_addLoop 0 = .ok (.aload_n 0, 1) := by decide +kernel
theorem dX4_addLoop_1 : decode cX4_addLoop 1 = .ok (.getfield 55, 3) := by decide +kernel
theorem dX4_addLoop_4 : decode cX4_addLoop 4 = .ok (.aload_n 0, 1) := by decide +kernel
theorem dX4_addLoop_5 : decode cX4_addLoop 5 = .ok (.getfield 30, 3) := by decide +kernel
theorem dX4_addLoop_8 : decode cX4_addLoop 8 = .ok (.iload_n 1, 1) := by decide +kernel
theorem dX4_addLoop_9 : decode cX4_addLoop 9 = .ok (.iastore, 1) := by decide +kernel
theorem dX4_addLoop_10 : decode cX4_addLoop 10 = .ok (.aload_n 0, 1) := by decide +kernel
theorem dX4_addLoop_11 : decode cX4_addLoop 11 = .ok (.getfield 58, 3) := by decide +kernel
theorem dX4_addLoop_14 : decode cX4_addLoop 14 = .ok (.aload_n 0, 1) := by decide +kernel
theorem dX4_addLoop_15 : decode cX4_addLoop 15 = .ok (.getfield 30, 3) := by decide +kernel
theorem dX4_addLoop_18 : decode cX4_addLoop 18 = .ok (.iconst 0, 1) := by decide +kernel
theorem dX4_addLoop_19 : decode cX4_addLoop 19 = .ok (.iastore, 1) := by decide +kernel
theorem dX4_addLoop_20 : decode cX4_addLoop 20 = .ok (.aload_n 0, 1) := by decide +kernel
theorem dX4_addLoop_21 : decode cX4_addLoop 21 = .ok (.getfield 61, 3) := by decide +kernel
theorem dX4_addLoop_24 : decode cX4_addLoop 24 = .ok (.aload_n 0, 1) := by decide +kernel
theorem dX4_addLoop_25 : decode cX4_addLoop 25 = .ok (.getfield 30, 3) := by decide +kernel
theorem dX4_addLoop_28 : decode cX4_addLoop 28 = .ok (.iconst 0, 1) := by decide +kernel
theorem dX4_addLoop_29 : decode cX4_addLoop 29 = .ok (.iastore, 1) := by decide +kernel
theorem dX4_addLoop_30 : decode cX4_addLoop 30 = .ok (.aload_n 0, 1) := by decide +kernel
theorem dX4_addLoop_31 : decode cX4_addLoop 31 = .ok (.dup, 1) := by decide +kernel
theorem dX4_addLoop_32 : decode cX4_addLoop 32 = .ok (.getfield 30, 3) := by decide +kernel
theorem dX4_addLoop_35 : decode cX4_addLoop 35 = .ok (.dup_x1, 1) := by decide +kernel
theorem dX4_addLoop_36 : decode cX4_addLoop 36 = .ok (.iconst 1, 1) := by decide +kernel
theorem dX4_addLoop_37 : decode cX4_addLoop 37 = .ok (.iadd, 1) := by decide +kernel
theorem dX4_addLoop_38 : decode cX4_addLoop 38 = .ok (.putfield 30, 3) := by decide +kernel
theorem dX4_addLoop_41 : decode cX4_addLoop 41 = .ok (.ireturn, 1) := by decide +kernel
theorem dX4_isTaken_0 : decode cX4_isTaken 0 = .ok (.iconst 0, 1) := by decide +kernel
theorem dX4_isTaken_1 : decode cX4_isTaken 1 = .ok (.istore_n 3, 1) := by decide +kernel
theorem dX4_isTaken_2 : decode cX4_isTaken 2 = .ok (.iload_n 3, 1) := by decide +kernel
theorem dX4_isTaken_3 : decode cX4_isTaken 3 = .ok (.aload_n 0, 1) := by decide +kernel
theorem dX4_isTaken_4 : decode cX4_isTaken 4 = .ok (.getfield 24, 3) := by decide +kernel
theorem dX4_isTaken_7 : decode cX4_isTaken 7 = .ok (.if_icmp .ge 37, 3) := by decide +kernel
theorem dX4_isTaken_10 : decode cX4_isTaken 10 = .ok (.aload_n 0, 1) := by decide +kernel
theorem dX4_isTaken_11 : decode cX4_isTaken 11 = .ok (.getfield 35, 3) := by decide +kernel
theorem dX4_isTaken_14 : decode cX4_isTaken 14 = .ok (.iload_n 3, 1) := by decide +kernel
theorem dX4_isTaken_15 : decode cX4_isTaken 15 = .ok (.aaload, 1) := by decide +kernel
theorem dX4_isTaken_16 : decode cX4_isTaken 16 = .ok (.getfield 77, 3) := by decide +kernel
theorem dX4_isTaken_19 : decode cX4_isTaken 19 = .ok (.iload_n 1, 1) := by decide +kernel
theorem dX4_isTaken_20 : decode cX4_isTaken 20 = .ok (.if_icmp .ne 18, 3) := by decide +kernel
theorem dX4_isTaken_23 : decode cX4_isTaken 23 = .ok (.aload_n 0, 1) := by decide +kernel
theorem dX4_isTaken_24 : decode cX4_isTaken 24 = .ok (.getfield 35, 3) := by decide +kernel
theorem dX4_isTaken_27 : decode cX4_isTaken 27 = .ok (.iload_n 3, 1) := by decide +kernel
theorem dX4_isTaken_28 : decode cX4_isTaken 28 = .ok (.aaload, 1) := by decide +kernel
theorem dX4_isTaken_29 : decode cX4_isTaken 29 = .ok (.getfield 80, 3) := by decide +kernel
theorem dX4_isTaken_32 : decode cX4_isTaken 32 = .ok (.iload_n 2, 1) := by decide +kernel
theorem dX4_isTaken_33 : decode cX4_isTaken 33 = .ok (.if_icmp .ne 5, 3) := by decide +kernel
theorem dX4_isTaken_36 : decode cX4_isTaken 36 = .ok (.iconst 1, 1) := by decide +kernel
theorem dX4_isTaken_37 : decode cX4_isTaken 37 = .ok (.ireturn, 1) := by decide +kernel
theorem dX4_isTaken_38 : decode cX4_isTaken 38 = .ok (.iinc 3 1, 3) := by decide +kernel
theorem dX4_isTaken_41 : decode cX4_isTaken 41 = .ok (.goto (-39), 3) := by decide +kernel
theorem dX4_isTaken_44 : decode cX4_isTaken 44 = .ok (.iconst 0, 1) := by decide +kernel
theorem dX4_isTaken_45 : decode cX4_isTaken 45 = .ok (.ireturn, 1) := by decide +kernel
theorem dX4_isEven_0 : decode cX4_isEven 0 = .ok (.iconst 0, 1) := by decide +kernel
theorem dX4_isEven_1 : decode cX4_isEven 1 = .ok (.istore_n 1, 1) := by decide +kernel
theorem dX4_isEven_2 : decode cX4_isEven 2 = .ok (.iload_n 1, 1) := by decide +kernel
theorem dX4_isEven_3 : decode cX4_isEven 3 = .ok (.aload_n 0, 1) := by decide +kernel
theorem dX4_isEven_4 : decode cX4_isEven 4 = .ok (.getfield 24, 3) := by decide +kernel
theorem dX4_isEven_7 : decode cX4_isEven 7 = .ok (.if_icmp .ge 44, 3) := by decide +kernel
theorem dX4_isEven_10 : decode cX4_isEven 10 = .ok (.aload_n 0, 1) := by decide +kernel
theorem dX4_isEven_11 : decode cX4_isEven 11 = .ok (.getfield 35, 3) := by decide +kernel
theorem dX4_isEven_14 : decode cX4_isEven 14 = .ok (.iload_n 1, 1) := by decide +kernel
theorem dX4_isEven_15 : decode cX4_isEven 15 = .ok (.aaload, 1) := by decide +kernel
theorem dX4_isEven_16 : decode cX4_isEven 16 = .ok (.getfield 83, 3) := by decide +kernel
theorem dX4_isEven_19 : decode cX4_isEven 19 = .ok (.ifCond .eq 24, 3) := by decide +kernel
theorem dX4_isEven_22 : decode cX4_isEven 22 = .ok (.aload_n 0, 1) := by decide +kernel
theorem dX4_isEven_23 : decode cX4_isEven 23 = .ok (.getfield 35, 3) := by decide +kernel
theorem dX4_isEven_26 : decode cX4_isEven 26 = .ok (.iload_n 1, 1) := by decide +kernel
theorem dX4_isEven_27 : decode cX4_isEven 27 = .ok (.aaload, 1) := by decide +kernel
theorem dX4_isEven_28 : decode cX4_isEven 28 = .ok (.getfield 83, 3) := by decide +kernel
theorem dX4_isEven_31 : decode cX4_isEven 31 = .ok (.aload_n 0, 1) := by decide +kernel
theorem dX4_isEven_32 : decode cX4_isEven 32 = .ok (.getfield 35, 3) := by decide +kernel
theorem dX4_isEven_35 : decode cX4_isEven 35 = .ok (.iconst 0, 1) := by decide +kernel
theorem dX4_isEven_36 : decode cX4_isEven 36 = .ok (.aaload, 1) := by decide +kernel
theorem dX4_isEven_37 : decode cX4_isEven 37 = .ok (.getfield 83, 3) := by decide +kernel
theorem dX4_isEven_40 : decode cX4_isEven 40 = .ok (.if_icmp .eq 5, 3) := by decide +kernel
theorem dX4_isEven_43 : decode cX4_isEven 43 = .ok (.iconst 0, 1) := by decide +kernel
theorem dX4_isEven_44 : decode cX4_isEven 44 = .ok (.ireturn, 1) := by decide +kernel
theorem dX4_isEven_45 : decode cX4_isEven 45 = .ok (.iinc 1 1, 3) := by decide +kernel
theorem dX4_isEven_48 : decode cX4_isEven 48 = .ok (.goto (-46), 3) := by decide +kernel
theorem dX4_isEven_51 : decode cX4_isEven 51 = .ok (.iconst 1, 1) := by decide +kernel
theorem dX4_isEven_52 : decode cX4_isEven 52 = .ok (.ireturn, 1) := by decide +kernel
theorem dX4_isLike_0 : decode cX4_isLike 0 = .ok (.iconst 0, 1) := by decide +kernel
theorem dX4_isLike_1 : decode cX4_isLike 1 = .ok (.istore_n 2, 1) := by decide +kernel
theorem dX4_isLike_2 : decode cX4_isLike 2 = .ok (.iload_n 2, 1) := by decide +kernel
theorem dX4_isLike_3 : decode cX4_isLike 3 = .ok (.aload_n 0, 1) := by decide +kernel
theorem dX4_isLike_4 : decode cX4_isLike 4 = .ok (.getfield 24, 3) := by decide +kernel
theorem dX4_isLike_7 : decode cX4_isLike 7 = .ok (.if_icmp .ge 29, 3) := by decide +kernel
theorem dX4_isLike_10 : decode cX4_isLike 10 = .ok (.aload_n 0, 1) := by decide +kernel
theorem dX4_isLike_11 : decode cX4_isLike 11 = .ok (.getfield 35, 3) := by decide +kernel
theorem dX4_isLike_14 : decode cX4_isLike 14 = .ok (.iload_n 2, 1) := by decide +kernel
theorem dX4_isLike_15 : decode cX4_isLike 15 = .ok (.aaload, 1) := by decide +kernel
theorem dX4_isLike_16 : decode cX4_isLike 16 = .ok (.aload_n 1, 1) := by decide +kernel
theorem dX4_isLike_17 : decode cX4_isLike 17 = .ok (.getfield 35, 3) := by decide +kernel
theorem dX4_isLike_20 : decode cX4_isLike 20 = .ok (.iload_n 2, 1) := by decide +kernel
theorem dX4_isLike_21 : decode cX4_isLike 21 = .ok (.aaload, 1) := by decide +kernel
theorem dX4_isLike_22 : decode cX4_isLike 22 = .ok (.invokevirtual 86, 3) := by decide +kernel
theorem dX4_isLike_25 : decode cX4_isLike 25 = .ok (.ifCond .ne 5, 3) := by decide +kernel
theorem dX4_isLike_28 : decode cX4_isLike 28 = .ok (.iconst 0, 1) := by decide +kernel
theorem dX4_isLike_29 : decode cX4_isLike 29 = .ok (.ireturn, 1) := by decide +kernel
theorem dX4_isLike_30 : decode cX4_isLike 30 = .ok (.iinc 2 1, 3) := by decide +kernel
theorem dX4_isLike_33 : decode cX4_isLike 33 = .ok (.goto (-31), 3) := by decide +kernel
theorem dX4_isLike_36 : decode cX4_isLike 36 = .ok (.iconst 1, 1) := by decide +kernel
theorem dX4_isLike_37 : decode cX4_isLike 37 = .ok (.ireturn, 1) := by decide +kernel
theorem dX4_cellsGone_0 : decode cX4_cellsGone 0 = .ok (.iload_n 1, 1) := by decide +kernel
theorem dX4_cellsGone_1 : decode cX4_cellsGone 1 = .ok (.ifCond .lt 13, 3) := by decide +kernel
theorem dX4_cellsGone_4 : decode cX4_cellsGone 4 = .ok (.aload_n 0, 1) := by decide +kernel
theorem dX4_cellsGone_5 : decode cX4_cellsGone 5 = .ok (.getfield 35, 3) := by decide +kernel
theorem dX4_cellsGone_8 : decode cX4_cellsGone 8 = .ok (.iload_n 1, 1) := by decide +kernel
theorem dX4_cellsGone_9 : decode cX4_cellsGone 9 = .ok (.aaload, 1) := by decide +kernel
theorem dX4_cellsGone_10 : decode cX4_cellsGone 10 = .ok (.getfield 90, 3) := by decide +kernel
theorem dX4_cellsGone_13 : decode cX4_cellsGone 13 = .ok (.ireturn, 1) := by decide +kernel
theorem dX4_cellsGone_14 : decode cX4_cellsGone 14 = .ok (.iconst 0, 1) := by decide +kernel
theorem dX4_cellsGone_15 : decode cX4_cellsGone 15 = .ok (.istore_n 2, 1) := by decide +kernel
theorem dX4_cellsGone_16 : decode cX4_cellsGone 16 = .ok (.iconst 0, 1) := by decide +kernel
theorem dX4_cellsGone_17 : decode cX4_cellsGone 17 = .ok (.istore_n 3, 1) := by decide +kernel
theorem dX4_cellsGone_18 : decode cX4_cellsGone 18 = .ok (.iload_n 3, 1) := by decide +kernel
theorem dX4_cellsGone_19 : decode cX4_cellsGone 19 = .ok (.aload_n 0, 1) := by decide +kernel
theorem dX4_cellsGone_20 : decode cX4_cellsGone 20 = .ok (.getfield 24, 3) := by decide +kernel
theorem dX4_cellsGone_23 : decode cX4_cellsGone 23 = .ok (.if_icmp .ge 21, 3) := by decide +kernel
theorem dX4_cellsGone_26 : decode cX4_cellsGone 26 = .ok (.iload_n 2, 1) := by decide +kernel
theorem dX4_cellsGone_27 : decode cX4_cellsGone 27 = .ok (.aload_n 0, 1) := by decide +kernel
theorem dX4_cellsGone_28 : decode cX4_cellsGone 28 = .ok (.getfield 35, 3) := by decide +kernel
theorem dX4_cellsGone_31 : decode cX4_cellsGone 31 = .ok (.iload_n 3, 1) := by decide +kernel
theorem dX4_cellsGone_32 : decode cX4_cellsGone 32 = .ok (.aaload, 1) := by decide +kernel
theorem dX4_cellsGone_33 : decode cX4_cellsGone 33 = .ok (.getfield 90, 3) := by decide +kernel
theorem dX4_cellsGone_36 : decode cX4_cellsGone 36 = .ok (.iadd, 1) := by decide +kernel
theorem dX4_cellsGone_37 : decode cX4_cellsGone 37 = .ok (.istore_n 2, 1) := by decide +kernel
theorem dX4_cellsGone_38 : decode cX4_cellsGone 38 = .ok (.iinc 3 1, 3) := by decide +kernel
theorem dX4_cellsGone_41 : decode cX4_cellsGone 41 = .ok (.goto (-23), 3) := by decide +kernel
theorem dX4_cellsGone_44 : decode cX4_cellsGone 44 = .ok (.iload_n 2, 1) := by decide +kernel
theorem dX4_cellsGone_45 : decode cX4_cellsGone 45 = .ok (.ireturn, 1) := by decide +kernel
theorem dX4_cellsOn_0 : decode cX4_cellsOn 0 = .ok (.iload_n 2, 1) := by decide +kernel
theorem dX4_cellsOn_1 : decode cX4_cellsOn 1 = .ok (.iload_n 1, 1) := by decide +kernel
theorem dX4_cellsOn_2 : decode cX4_cellsOn 2 = .ok (.if_icmp .lt 9, 3) := by decide +kernel
theorem dX4_cellsOn_5 : decode cX4_cellsOn 5 = .ok (.iload_n 2, 1) := by decide +kernel
theorem dX4_cellsOn_6 : decode cX4_cellsOn 6 = .ok (.iload_n 1, 1) := by decide +kernel
theorem dX4_cellsOn_7 : decode cX4_cellsOn 7 = .ok (.isub, 1) := by decide +kernel
theorem dX4_cellsOn_8 : decode cX4_cellsOn 8 = .ok (.goto 11, 3) := by decide +kernel
theorem dX4_cellsOn_11 : decode cX4_cellsOn 11 = .ok (.iload_n 2, 1) := by decide +kernel
theorem dX4_cellsOn_12 : decode cX4_cellsOn 12 = .ok (.iload_n 1, 1) := by decide +kernel
theorem dX4_cellsOn_13 : decode cX4_cellsOn 13 = .ok (.isub, 1) := by decide +kernel
theorem dX4_cellsOn_14 : decode cX4_cellsOn 14 = .ok (.aload_n 0, 1) := by decide +kernel
theorem dX4_cellsOn_15 : decode cX4_cellsOn 15 = .ok (.getfield 9, 3) := by decide +kernel
theorem dX4_cellsOn_18 : decode cX4_cellsOn 18 = .ok (.iadd, 1) := by decide +kernel
theorem dX4_cellsOn_19 : decode cX4_cellsOn 19 = .ok (.ireturn, 1) := by decide +kernel
theorem dX4_lookFrom_0 : decode cX4_lookFrom 0 = .ok (.aload_n 0, 1) := by decide +kernel
theorem dX4_lookFrom_1 : decode cX4_lookFrom 1 = .ok (.getfield 35, 3) := by decide +kernel
theorem dX4_lookFrom_4 : decode cX4_lookFrom 4 = .ok (.iload_n 1, 1) := by decide +kernel
theorem dX4_lookFrom_5 : decode cX4_lookFrom 5 = .ok (.aaload, 1) := by decide +kernel
theorem dX4_lookFrom_6 : decode cX4_lookFrom 6 = .ok (.astore_n 2, 1) := by decide +kernel
theorem dX4_lookFrom_7 : decode cX4_lookFrom 7 = .ok (.aload_n 0, 1) := by decide +kernel
theorem dX4_lookFrom_8 : decode cX4_lookFrom 8 = .ok (.getfield 9, 3) := by decide +kernel
theorem dX4_lookFrom_11 : decode cX4_lookFrom 11 = .ok (.iconst 1, 1) := by decide +kernel
theorem dX4_lookFrom_12 : decode cX4_lookFrom 12 = .ok (.isub, 1) := by decide +kernel
theorem dX4_lookFrom_13 : decode cX4_lookFrom 13 = .ok (.istore_n 3, 1) := by decide +kernel
theorem dX4_lookFrom_14 : decode cX4_lookFrom 14 = .ok (.iload_n 1, 1) := by decide +kernel
theorem dX4_lookFrom_15 : decode cX4_lookFrom 15 = .ok (.istore 4, 2) := by decide +kernel
theorem dX4_lookFrom_17 : decode cX4_lookFrom 17 = .ok (.aload_n 0, 1) := by decide +kernel
theorem dX4_lookFrom_18 : decode cX4_lookFrom 18 = .ok (.getfield 9, 3) := by decide +kernel
theorem dX4_lookFrom_21 : decode cX4_lookFrom 21 = .ok (.istore 5, 2) := by decide +kernel
theorem dX4_lookFrom_23 : decode cX4_lookFrom 23 = .ok (.iconst 0, 1) := by decide +kernel
theorem dX4_lookFrom_24 : decode cX4_lookFrom 24 = .ok (.istore 6, 2) := by decide +kernel
theorem dX4_lookFrom_26 : decode cX4_lookFrom 26 = .ok (.iload 6, 2) := by decide +kernel
theorem dX4_lookFrom_28 : decode cX4_lookFrom 28 = .ok (.aload_n 0, 1) := by decide +kernel
theorem dX4_lookFrom_29 : decode cX4_lookFrom 29 = .ok (.getfield 24, 3) := by decide +kernel
theorem dX4_lookFrom_32 : decode cX4_lookFrom 32 = .ok (.if_icmp .ge 88, 3) := by decide +kernel
theorem dX4_lookFrom_35 : decode cX4_lookFrom 35 = .ok (.iload 6, 2) := by decide +kernel
theorem dX4_lookFrom_37 : decode cX4_lookFrom 37 = .ok (.iload_n 1, 1) := by decide +kernel
theorem dX4_lookFrom_38 : decode cX4_lookFrom 38 = .ok (.if_icmp .eq 76, 3) := by decide +kernel
theorem dX4_lookFrom_41 : decode cX4_lookFrom 41 = .ok (.aload_n 0, 1) := by decide +kernel
theorem dX4_lookFrom_42 : decode cX4_lookFrom 42 = .ok (.aload_n 2, 1) := by decide +kernel
theorem dX4_lookFrom_43 : decode cX4_lookFrom 43 = .ok (.getfield 80, 3) := by decide +kernel
theorem dX4_lookFrom_46 : decode cX4_lookFrom 46 = .ok (.aload_n 0, 1) := by decide +kernel
theorem dX4_lookFrom_47 : decode cX4_lookFrom 47 = .ok (.getfield 35, 3) := by decide +kernel
theorem dX4_lookFrom_50 : decode cX4_lookFrom 50 = .ok (.iload 6, 2) := by decide +kernel
theorem dX4_lookFrom_52 : decode cX4_lookFrom 52 = .ok (.aaload, 1) := by decide +kernel
theorem dX4_lookFrom_53 : decode cX4_lookFrom 53 = .ok (.getfield 80, 3) := by decide +kernel
theorem dX4_lookFrom_56 : decode cX4_lookFrom 56 = .ok (.invokevirtual 93, 3) := by decide +kernel
theorem dX4_lookFrom_59 : decode cX4_lookFrom 59 = .ok (.istore 7, 2) := by decide +kernel
theorem dX4_lookFrom_61 : decode cX4_lookFrom 61 = .ok (.aload_n 0, 1) := by decide +kernel
theorem dX4_lookFrom_62 : decode cX4_lookFrom 62 = .ok (.getfield 35, 3) := by decide +kernel
theorem dX4_lookFrom_65 : decode cX4_lookFrom 65 = .ok (.iload 6, 2) := by decide +kernel
theorem dX4_lookFrom_67 : decode cX4_lookFrom 67 = .ok (.aaload, 1) := by decide +kernel
theorem dX4_lookFrom_68 : decode cX4_lookFrom 68 = .ok (.getfield 77, 3) := by decide +kernel
theorem dX4_lookFrom_71 : decode cX4_lookFrom 71 = .ok (.aload_n 2, 1) := by decide +kernel
theorem dX4_lookFrom_72 : decode cX4_lookFrom 72 = .ok (.getfield 77, 3) := by decide +kernel
theorem dX4_lookFrom_75 : decode cX4_lookFrom 75 = .ok (.if_icmp .eq 22, 3) := by decide +kernel
theorem dX4_lookFrom_78 : decode cX4_lookFrom 78 = .ok (.iload 7, 2) := by decide +kernel
theorem dX4_lookFrom_80 : decode cX4_lookFrom 80 = .ok (.iload 5, 2) := by decide +kernel
theorem dX4_lookFrom_82 : decode cX4_lookFrom 82 = .ok (.if_icmp .ge 8, 3) := by decide +kernel
theorem dX4_lookFrom_85 : decode cX4_lookFrom 85 = .ok (.iload 7, 2) := by decide +kernel
theorem dX4_lookFrom_87 : decode cX4_lookFrom 87 = .ok (.goto 5, 3) := by decide +kernel
theorem dX4_lookFrom_90 : decode cX4_lookFrom 90 = .ok (.iload 5, 2) := by decide +kernel
theorem dX4_lookFrom_92 : decode cX4_lookFrom 92 = .ok (.istore 5, 2) := by decide +kernel
theorem dX4_lookFrom_94 : decode cX4_lookFrom 94 = .ok (.goto 20, 3) := by decide +kernel
theorem dX4_lookFrom_97 : decode cX4_lookFrom 97 = .ok (.iload 7, 2) := by decide +kernel
theorem dX4_lookFrom_99 : decode cX4_lookFrom 99 = .ok (.iconst 1, 1) := by decide +kernel
theorem dX4_lookFrom_100 : decode cX4_lookFrom 100 = .ok (.isub, 1) := by decide +kernel
theorem dX4_lookFrom_101 : decode cX4_lookFrom 101 = .ok (.iload_n 3, 1) := by decide +kernel
theorem dX4_lookFrom_102 : decode cX4_lookFrom 102 = .ok (.if_icmp .ge 12, 3) := by decide +kernel
theorem dX4_lookFrom_105 : decode cX4_lookFrom 105 = .ok (.iload 7, 2) := by decide +kernel
theorem dX4_lookFrom_107 : decode cX4_lookFrom 107 = .ok (.iconst 1, 1) := by decide +kernel
theorem dX4_lookFrom_108 : decode cX4_lookFrom 108 = .ok (.isub, 1) := by decide +kernel
theorem dX4_lookFrom_109 : decode cX4_lookFrom 109 = .ok (.istore_n 3, 1) := by decide +kernel
theorem dX4_lookFrom_110 : decode cX4_lookFrom 110 = .ok (.iload 6, 2) := by decide +kernel
theorem dX4_lookFrom_112 : decode cX4_lookFrom 112 = .ok (.istore 4, 2) := by decide +kernel
theorem dX4_lookFrom_114 : decode cX4_lookFrom 114 = .ok (.iinc 6 1, 3) := by decide +kernel
theorem dX4_lookFrom_117 : decode cX4_lookFrom 117 = .ok (.goto (-91), 3) := by decide +kernel
theorem dX4_lookFrom_120 : decode cX4_lookFrom 120 = .ok (.aload_n 2, 1) := by decide +kernel
theorem dX4_lookFrom_121 : decode cX4_lookFrom 121 = .ok (.iload_n 3, 1) := by decide +kernel
theorem dX4_lookFrom_122 : decode cX4_lookFrom 122 = .ok (.putfield 97, 3) := by decide +kernel
theorem dX4_lookFrom_125 : decode cX4_lookFrom 125 = .ok (.aload_n 2, 1) := by decide +kernel
theorem dX4_lookFrom_126 : decode cX4_lookFrom 126 = .ok (.iload 4, 2) := by decide +kernel
theorem dX4_lookFrom_128 : decode cX4_lookFrom 128 = .ok (.putfield 100, 3) := by decide +kernel
theorem dX4_lookFrom_131 : decode cX4_lookFrom 131 = .ok (.aload_n 2, 1) := by decide +kernel
theorem dX4_lookFrom_132 : decode cX4_lookFrom 132 = .ok (.aload_n 0, 1) := by decide +kernel
theorem dX4_lookFrom_133 : decode cX4_lookFrom 133 = .ok (.getfield 35, 3) := by decide +kernel
theorem dX4_lookFrom_136 : decode cX4_lookFrom 136 = .ok (.iload 4, 2) := by decide +kernel
theorem dX4_lookFrom_138 : decode cX4_lookFrom 138 = .ok (.aaload, 1) := by decide +kernel
theorem dX4_lookFrom_139 : decode cX4_lookFrom 139 = .ok (.getfield 83, 3) := by decide +kernel
theorem dX4_lookFrom_142 : decode cX4_lookFrom 142 = .ok (.aload_n 2, 1) := by decide +kernel
theorem dX4_lookFrom_143 : decode cX4_lookFrom 143 = .ok (.getfield 83, 3) := by decide +kernel
theorem dX4_lookFrom_146 : decode cX4_lookFrom 146 = .ok (.isub, 1) := by decide +kernel
theorem dX4_lookFrom_147 : decode cX4_lookFrom 147 = .ok (.putfield 103, 3) := by decide +kernel
theorem dX4_lookFrom_150 : decode cX4_lookFrom 150 = .ok (.aload_n 2, 1) := by decide +kernel
theorem dX4_lookFrom_151 : decode cX4_lookFrom 151 = .ok (.iload 5, 2) := by decide +kernel
theorem dX4_lookFrom_153 : decode cX4_lookFrom 153 = .ok (.putfield 106, 3) := by decide +kernel
theorem dX4_lookFrom_156 : decode cX4_lookFrom 156 = .ok (.return_, 1) := by decide +kernel
theorem dX4_lookFromAll_0 : decode cX4_lookFromAll 0 = .ok (.iconst 0, 1) := by decide +kernel
theorem dX4_lookFromAll_1 : decode cX4_lookFromAll 1 = .ok (.istore_n 1, 1) := by decide +kernel
theorem dX4_lookFromAll_2 : decode cX4_lookFromAll 2 = .ok (.iload_n 1, 1) := by decide +kernel
theorem dX4_lookFromAll_3 : decode cX4_lookFromAll 3 = .ok (.aload_n 0, 1) := by decide +kernel
theorem dX4_lookFromAll_4 : decode cX4_lookFromAll 4 = .ok (.getfield 24, 3) := by decide +kernel
theorem dX4_lookFromAll_7 : decode cX4_lookFromAll 7 = .ok (.if_icmp .ge 14, 3) := by decide +kernel
theorem dX4_lookFromAll_10 : decode cX4_lookFromAll 10 = .ok (.aload_n 0, 1) := by decide +kernel
theorem dX4_lookFromAll_11 : decode cX4_lookFromAll 11 = .ok (.iload_n 1, 1) := by decide +kernel
theorem dX4_lookFromAll_12 : decode cX4_lookFromAll 12 = .ok (.invokevirtual 109, 3) := by decide +kernel
theorem dX4_lookFromAll_15 : decode cX4_lookFromAll 15 = .ok (.iinc 1 1, 3) := by decide +kernel
theorem dX4_lookFromAll_18 : decode cX4_lookFromAll 18 = .ok (.goto (-16), 3) := by decide +kernel
theorem dX4_lookFromAll_21 : decode cX4_lookFromAll 21 = .ok (.return_, 1) := by decide +kernel
theorem dX4_run_0 : decode cX4_run 0 = .ok (.iconst 0, 1) := by decide +kernel
theorem dX4_run_1 : decode cX4_run 1 = .ok (.istore_n 2, 1) := by decide +kernel
theorem dX4_run_2 : decode cX4_run 2 = .ok (.iload_n 2, 1) := by decide +kernel
theorem dX4_run_3 : decode cX4_run 3 = .ok (.iload_n 1, 1) := by decide +kernel
theorem dX4_run_4 : decode cX4_run 4 = .ok (.if_icmp .ge 13, 3) := by decide +kernel
theorem dX4_run_7 : decode cX4_run 7 = .ok (.aload_n 0, 1) := by decide +kernel
theorem dX4_run_8 : decode cX4_run 8 = .ok (.invokevirtual 113, 3) := by decide +kernel
theorem dX4_run_11 : decode cX4_run 11 = .ok (.iinc 2 1, 3) := by decide +kernel
theorem dX4_run_14 : decode cX4_run 14 = .ok (.goto (-12), 3) := by decide +kernel
theorem dX4_run_17 : decode cX4_run 17 = .ok (.return_, 1) := by decide +kernel
theorem dX4_tick_0 : decode cX4_tick 0 = .ok (.aload_n 0, 1) := by decide +kernel
theorem dX4_tick_1 : decode cX4_tick 1 = .ok (.invokevirtual 116, 3) := by decide +kernel
theorem dX4_tick_4 : decode cX4_tick 4 = .ok (.iconst 0, 1) := by decide +kernel
theorem dX4_tick_5 : decode cX4_tick 5 = .ok (.istore_n 1, 1) := by decide +kernel
theorem dX4_tick_6 : decode cX4_tick 6 = .ok (.iload_n 1, 1) := by decide +kernel
theorem dX4_tick_7 : decode cX4_tick 7 = .ok (.aload_n 0, 1) := by decide +kernel
theorem dX4_tick_8 : decode cX4_tick 8 = .ok (.getfield 24, 3) := by decide +kernel
theorem dX4_tick_11 : decode cX4_tick 11 = .ok (.if_icmp .ge 41, 3) := by decide +kernel
theorem dX4_tick_14 : decode cX4_tick 14 = .ok (.aload_n 0, 1) := by decide +kernel
theorem dX4_tick_15 : decode cX4_tick 15 = .ok (.getfield 35, 3) := by decide +kernel
theorem dX4_tick_18 : decode cX4_tick 18 = .ok (.iload_n 1, 1) := by decide +kernel
theorem dX4_tick_19 : decode cX4_tick 19 = .ok (.aaload, 1) := by decide +kernel
theorem dX4_tick_20 : decode cX4_tick 20 = .ok (.invokevirtual 119, 3) := by decide +kernel
theorem dX4_tick_23 : decode cX4_tick 23 = .ok (.aload_n 0, 1) := by decide +kernel
theorem dX4_tick_24 : decode cX4_tick 24 = .ok (.getfield 35, 3) := by decide +kernel
theorem dX4_tick_27 : decode cX4_tick 27 = .ok (.iload_n 1, 1) := by decide +kernel
theorem dX4_tick_28 : decode cX4_tick 28 = .ok (.aaload, 1) := by decide +kernel
theorem dX4_tick_29 : decode cX4_tick 29 = .ok (.aload_n 0, 1) := by decide +kernel
theorem dX4_tick_30 : decode cX4_tick 30 = .ok (.getfield 41, 3) := by decide +kernel
theorem dX4_tick_33 : decode cX4_tick 33 = .ok (.aload_n 0, 1) := by decide +kernel
theorem dX4_tick_34 : decode cX4_tick 34 = .ok (.getfield 35, 3) := by decide +kernel
theorem dX4_tick_37 : decode cX4_tick 37 = .ok (.iload_n 1, 1) := by decide +kernel
theorem dX4_tick_38 : decode cX4_tick 38 = .ok (.aaload, 1) := by decide +kernel
theorem dX4_tick_39 : decode cX4_tick 39 = .ok (.getfield 122, 3) := by decide +kernel
theorem dX4_tick_42 : decode cX4_tick 42 = .ok (.aaload, 1) := by decide +kernel
theorem dX4_tick_43 : decode cX4_tick 43 = .ok (.invokevirtual 125, 3) := by decide +kernel
theorem dX4_tick_46 : decode cX4_tick 46 = .ok (.iinc 1 1, 3) := by decide +kernel
theorem dX4_tick_49 : decode cX4_tick 49 = .ok (.goto (-43), 3) := by decide +kernel
theorem dX4_tick_52 : decode cX4_tick 52 = .ok (.aload_n 0, 1) := by decide +kernel
theorem dX4_tick_53 : decode cX4_tick 53 = .ok (.invokevirtual 129, 3) := by decide +kernel
theorem dX4_tick_56 : decode cX4_tick 56 = .ok (.ifCond .eq 7, 3) := by decide +kernel
theorem dX4_tick_59 : decode cX4_tick 59 = .ok (.aload_n 0, 1) := by decide +kernel
theorem dX4_tick_60 : decode cX4_tick 60 = .ok (.invokevirtual 116, 3) := by decide +kernel
theorem dX4_tick_63 : decode cX4_tick 63 = .ok (.iconst 0, 1) := by decide +kernel
theorem dX4_tick_64 : decode cX4_tick 64 = .ok (.istore_n 1, 1) := by decide +kernel
theorem dX4_tick_65 : decode cX4_tick 65 = .ok (.iload_n 1, 1) := by decide +kernel
theorem dX4_tick_66 : decode cX4_tick 66 = .ok (.aload_n 0, 1) := by decide +kernel
theorem dX4_tick_67 : decode cX4_tick 67 = .ok (.getfield 24, 3) := by decide +kernel
theorem dX4_tick_70 : decode cX4_tick 70 = .ok (.if_icmp .ge 31, 3) := by decide +kernel
theorem dX4_tick_73 : decode cX4_tick 73 = .ok (.aload_n 0, 1) := by decide +kernel
theorem dX4_tick_74 : decode cX4_tick 74 = .ok (.getfield 35, 3) := by decide +kernel
theorem dX4_tick_77 : decode cX4_tick 77 = .ok (.iload_n 1, 1) := by decide +kernel
theorem dX4_tick_78 : decode cX4_tick 78 = .ok (.aaload, 1) := by decide +kernel
theorem dX4_tick_79 : decode cX4_tick 79 = .ok (.aload_n 0, 1) := by decide +kernel
theorem dX4_tick_80 : decode cX4_tick 80 = .ok (.aload_n 0, 1) := by decide +kernel
theorem dX4_tick_81 : decode cX4_tick 81 = .ok (.getfield 35, 3) := by decide +kernel
theorem dX4_tick_84 : decode cX4_tick 84 = .ok (.iload_n 1, 1) := by decide +kernel
theorem dX4_tick_85 : decode cX4_tick 85 = .ok (.aaload, 1) := by decide +kernel
theorem dX4_tick_86 : decode cX4_tick 86 = .ok (.getfield 80, 3) := by decide +kernel
theorem dX4_tick_89 : decode cX4_tick 89 = .ok (.invokevirtual 133, 3) := by decide +kernel
theorem dX4_tick_92 : decode cX4_tick 92 = .ok (.invokevirtual 137, 3) := by decide +kernel
theorem dX4_tick_95 : decode cX4_tick 95 = .ok (.iinc 1 1, 3) := by decide +kernel
theorem dX4_tick_98 : decode cX4_tick 98 = .ok (.goto (-33), 3) := by decide +kernel
theorem dX4_tick_101 : decode cX4_tick 101 = .ok (.iconst 0, 1) := by decide +kernel
theorem dX4_tick_102 : decode cX4_tick 102 = .ok (.istore_n 1, 1) := by decide +kernel
theorem dX4_tick_103 : decode cX4_tick 103 = .ok (.iload_n 1, 1) := by decide +kernel
theorem dX4_tick_104 : decode cX4_tick 104 = .ok (.aload_n 0, 1) := by decide +kernel
theorem dX4_tick_105 : decode cX4_tick 105 = .ok (.getfield 24, 3) := by decide +kernel
theorem dX4_tick_108 : decode cX4_tick 108 = .ok (.if_icmp .ge 19, 3) := by decide +kernel
theorem dX4_tick_111 : decode cX4_tick 111 = .ok (.aload_n 0, 1) := by decide +kernel
theorem dX4_tick_112 : decode cX4_tick 112 = .ok (.aload_n 0, 1) := by decide +kernel
theorem dX4_tick_113 : decode cX4_tick 113 = .ok (.getfield 35, 3) := by decide +kernel
theorem dX4_tick_116 : decode cX4_tick 116 = .ok (.iload_n 1, 1) := by decide +kernel
theorem dX4_tick_117 : decode cX4_tick 117 = .ok (.aaload, 1) := by decide +kernel
theorem dX4_tick_118 : decode cX4_tick 118 = .ok (.invokevirtual 140, 3) := by decide +kernel
theorem dX4_tick_121 : decode cX4_tick 121 = .ok (.iinc 1 1, 3) := by decide +kernel
theorem dX4_tick_124 : decode cX4_tick 124 = .ok (.goto (-21), 3) := by decide +kernel
theorem dX4_tick_127 : decode cX4_tick 127 = .ok (.aload_n 0, 1) := by decide +kernel
theorem dX4_tick_128 : decode cX4_tick 128 = .ok (.dup, 1) := by decide +kernel
theorem dX4_tick_129 : decode cX4_tick 129 = .ok (.getfield 18, 3) := by decide +kernel
theorem dX4_tick_132 : decode cX4_tick 132 = .ok (.iconst 1, 1) := by decide +kernel
theorem dX4_tick_133 : decode cX4_tick 133 = .ok (.iadd, 1) := by decide +kernel
theorem dX4_tick_134 : decode cX4_tick 134 = .ok (.putfield 18, 3) := by decide +kernel
theorem dX4_tick_137 : decode cX4_tick 137 = .ok (.aload_n 0, 1) := by decide +kernel
theorem dX4_tick_138 : decode cX4_tick 138 = .ok (.invokevirtual 143, 3) := by decide +kernel
theorem dX4_tick_141 : decode cX4_tick 141 = .ok (.return_, 1) := by decide +kernel
theorem dX4_changeLanes_0 : decode cX4_changeLanes 0 = .ok (.iconst 0, 1) := by decide +kernel
theorem dX4_changeLanes_1 : decode cX4_changeLanes 1 = .ok (.istore_n 1, 1) := by decide +kernel
theorem dX4_changeLanes_2 : decode cX4_changeLanes 2 = .ok (.iconst 0, 1) := by decide +kernel
theorem dX4_changeLanes_3 : decode cX4_changeLanes 3 = .ok (.istore_n 2, 1) := by decide +kernel
theorem dX4_changeLanes_4 : decode cX4_changeLanes 4 = .ok (.iload_n 2, 1) := by decide +kernel
theorem dX4_changeLanes_5 : decode cX4_changeLanes 5 = .ok (.aload_n 0, 1) := by decide +kernel
theorem dX4_changeLanes_6 : decode cX4_changeLanes 6 = .ok (.getfield 24, 3) := by decide +kernel
theorem dX4_changeLanes_9 : decode cX4_changeLanes 9 = .ok (.if_icmp .ge 53, 3) := by decide +kernel
theorem dX4_changeLanes_12 : decode cX4_changeLanes 12 = .ok (.aload_n 0, 1) := by decide +kernel
theorem dX4_changeLanes_13 : decode cX4_changeLanes 13 = .ok (.getfield 35, 3) := by decide +kernel
theorem dX4_changeLanes_16 : decode cX4_changeLanes 16 = .ok (.iload_n 2, 1) := by decide +kernel
theorem dX4_changeLanes_17 : decode cX4_changeLanes 17 = .ok (.aaload, 1) := by decide +kernel
theorem dX4_changeLanes_18 : decode cX4_changeLanes 18 = .ok (.astore_n 3, 1) := by decide +kernel
theorem dX4_changeLanes_19 : decode cX4_changeLanes 19 = .ok (.aload_n 3, 1) := by decide +kernel
theorem dX4_changeLanes_20 : decode cX4_changeLanes 20 = .ok (.getfield 146, 3) := by decide +kernel
theorem dX4_changeLanes_23 : decode cX4_changeLanes 23 = .ok (.ifCond .eq 33, 3) := by decide +kernel
theorem dX4_changeLanes_26 : decode cX4_changeLanes 26 = .ok (.aload_n 0, 1) := by decide +kernel
theorem dX4_changeLanes_27 : decode cX4_changeLanes 27 = .ok (.aload_n 3, 1) := by decide +kernel
theorem dX4_changeLanes_28 : decode cX4_changeLanes 28 = .ok (.invokevirtual 150, 3) := by decide +kernel
theorem dX4_changeLanes_31 : decode cX4_changeLanes 31 = .ok (.ifCond .eq 25, 3) := by decide +kernel
theorem dX4_changeLanes_34 : decode cX4_changeLanes 34 = .ok (.aload_n 3, 1) := by decide +kernel
theorem dX4_changeLanes_35 : decode cX4_changeLanes 35 = .ok (.iconst 1, 1) := by decide +kernel
theorem dX4_changeLanes_36 : decode cX4_changeLanes 36 = .ok (.aload_n 3, 1) := by decide +kernel
theorem dX4_changeLanes_37 : decode cX4_changeLanes 37 = .ok (.getfield 77, 3) := by decide +kernel
theorem dX4_changeLanes_40 : decode cX4_changeLanes 40 = .ok (.isub, 1) := by decide +kernel
theorem dX4_changeLanes_41 : decode cX4_changeLanes 41 = .ok (.putfield 77, 3) := by decide +kernel
theorem dX4_changeLanes_44 : decode cX4_changeLanes 44 = .ok (.aload_n 3, 1) := by decide +kernel
theorem dX4_changeLanes_45 : decode cX4_changeLanes 45 = .ok (.dup, 1) := by decide +kernel
theorem dX4_changeLanes_46 : decode cX4_changeLanes 46 = .ok (.getfield 153, 3) := by decide +kernel
theorem dX4_changeLanes_49 : decode cX4_changeLanes 49 = .ok (.iconst 1, 1) := by decide +kernel
theorem dX4_changeLanes_50 : decode cX4_changeLanes 50 = .ok (.iadd, 1) := by decide +kernel
theorem dX4_changeLanes_51 : decode cX4_changeLanes 51 = .ok (.putfield 153, 3) := by decide +kernel
theorem dX4_changeLanes_54 : decode cX4_changeLanes 54 = .ok (.iconst 1, 1) := by decide +kernel
theorem dX4_changeLanes_55 : decode cX4_changeLanes 55 = .ok (.istore_n 1, 1) := by decide +kernel
theorem dX4_changeLanes_56 : decode cX4_changeLanes 56 = .ok (.iinc 2 1, 3) := by decide +kernel
theorem dX4_changeLanes_59 : decode cX4_changeLanes 59 = .ok (.goto (-55), 3) := by decide +kernel
theorem dX4_changeLanes_62 : decode cX4_changeLanes 62 = .ok (.iload_n 1, 1) := by decide +kernel
theorem dX4_changeLanes_63 : decode cX4_changeLanes 63 = .ok (.ireturn, 1) := by decide +kernel
theorem dX4_hasRoomBeside_0 : decode cX4_hasRoomBeside 0 = .ok (.aload_n 0, 1) := by decide +kernel
theorem dX4_hasRoomBeside_1 : decode cX4_hasRoomBeside 1 = .ok (.getfield 9, 3) := by decide +kernel
theorem dX4_hasRoomBeside_4 : decode cX4_hasRoomBeside 4 = .ok (.istore_n 2, 1) := by decide +kernel
theorem dX4_hasRoomBeside_5 : decode cX4_hasRoomBeside 5 = .ok (.iconst 0, 1) := by decide +kernel
theorem dX4_hasRoomBeside_6 : decode cX4_hasRoomBeside 6 = .ok (.istore_n 3, 1) := by decide +kernel
theorem dX4_hasRoomBeside_7 : decode cX4_hasRoomBeside 7 = .ok (.iconst 0, 1) := by decide +kernel
theorem dX4_hasRoomBeside_8 : decode cX4_hasRoomBeside 8 = .ok (.istore 4, 2) := by decide +kernel
theorem dX4_hasRoomBeside_10 : decode cX4_hasRoomBeside 10 = .ok (.iload 4, 2) := by decide +kernel
theorem dX4_hasRoomBeside_12 : decode cX4_hasRoomBeside 12 = .ok (.aload_n 0, 1) := by decide +kernel
theorem dX4_hasRoomBeside_13 : decode cX4_hasRoomBeside 13 = .ok (.getfield 24, 3) := by decide +kernel
theorem dX4_hasRoomBeside_16 : decode cX4_hasRoomBeside 16 = .ok (.if_icmp .ge 68, 3) := by decide +kernel
theorem dX4_hasRoomBeside_19 : decode cX4_hasRoomBeside 19 = .ok (.aload_n 0, 1) := by decide +kernel
theorem dX4_hasRoomBeside_20 : decode cX4_hasRoomBeside 20 = .ok (.getfield 35, 3) := by decide +kernel
theorem dX4_hasRoomBeside_23 : decode cX4_hasRoomBeside 23 = .ok (.iload 4, 2) := by decide +kernel
theorem dX4_hasRoomBeside_25 : decode cX4_hasRoomBeside 25 = .ok (.aaload, 1) := by decide +kernel
theorem dX4_hasRoomBeside_26 : decode cX4_hasRoomBeside 26 = .ok (.getfield 77, 3) := by decide +kernel
theorem dX4_hasRoomBeside_29 : decode cX4_hasRoomBeside 29 = .ok (.aload_n 1, 1) := by decide +kernel
theorem dX4_hasRoomBeside_30 : decode cX4_hasRoomBeside 30 = .ok (.getfield 77, 3) := by decide +kernel
theorem dX4_hasRoomBeside_33 : decode cX4_hasRoomBeside 33 = .ok (.if_icmp .eq 45, 3) := by decide +kernel
theorem dX4_hasRoomBeside_36 : decode cX4_hasRoomBeside 36 = .ok (.aload_n 0, 1) := by decide +kernel
theorem dX4_hasRoomBeside_37 : decode cX4_hasRoomBeside 37 = .ok (.aload_n 0, 1) := by decide +kernel
theorem dX4_hasRoomBeside_38 : decode cX4_hasRoomBeside 38 = .ok (.getfield 35, 3) := by decide +kernel
theorem dX4_hasRoomBeside_41 : decode cX4_hasRoomBeside 41 = .ok (.iload 4, 2) := by decide +kernel
theorem dX4_hasRoomBeside_43 : decode cX4_hasRoomBeside 43 = .ok (.aaload, 1) := by decide +kernel
theorem dX4_hasRoomBeside_44 : decode cX4_hasRoomBeside 44 = .ok (.getfield 80, 3) := by decide +kernel
theorem dX4_hasRoomBeside_47 : decode cX4_hasRoomBeside 47 = .ok (.aload_n 1, 1) := by decide +kernel
theorem dX4_hasRoomBeside_48 : decode cX4_hasRoomBeside 48 = .ok (.getfield 80, 3) := by decide +kernel
theorem dX4_hasRoomBeside_51 : decode cX4_hasRoomBeside 51 = .ok (.invokevirtual 93, 3) := by decide +kernel
theorem dX4_hasRoomBeside_54 : decode cX4_hasRoomBeside 54 = .ok (.iconst 1, 1) := by decide +kernel
theorem dX4_hasRoomBeside_55 : decode cX4_hasRoomBeside 55 = .ok (.isub, 1) := by decide +kernel
theorem dX4_hasRoomBeside_56 : decode cX4_hasRoomBeside 56 = .ok (.istore 5, 2) := by decide +kernel
theorem dX4_hasRoomBeside_58 : decode cX4_hasRoomBeside 58 = .ok (.iload 5, 2) := by decide +kernel
theorem dX4_hasRoomBeside_60 : decode cX4_hasRoomBeside 60 = .ok (.iload_n 2, 1) := by decide +kernel
theorem dX4_hasRoomBeside_61 : decode cX4_hasRoomBeside 61 = .ok (.if_icmp .ge 17, 3) := by decide +kernel
theorem dX4_hasRoomBeside_64 : decode cX4_hasRoomBeside 64 = .ok (.iload 5, 2) := by decide +kernel
theorem dX4_hasRoomBeside_66 : decode cX4_hasRoomBeside 66 = .ok (.istore_n 2, 1) := by decide +kernel
theorem dX4_hasRoomBeside_67 : decode cX4_hasRoomBeside 67 = .ok (.aload_n 0, 1) := by decide +kernel
theorem dX4_hasRoomBeside_68 : decode cX4_hasRoomBeside 68 = .ok (.getfield 35, 3) := by decide +kernel
theorem dX4_hasRoomBeside_71 : decode cX4_hasRoomBeside 71 = .ok (.iload 4, 2) := by decide +kernel
theorem dX4_hasRoomBeside_73 : decode cX4_hasRoomBeside 73 = .ok (.aaload, 1) := by decide +kernel
theorem dX4_hasRoomBeside_74 : decode cX4_hasRoomBeside 74 = .ok (.getfield 83, 3) := by decide +kernel
theorem dX4_hasRoomBeside_77 : decode cX4_hasRoomBeside 77 = .ok (.istore_n 3, 1) := by decide +kernel
theorem dX4_hasRoomBeside_78 : decode cX4_hasRoomBeside 78 = .ok (.iinc 4 1, 3) := by decide +kernel
theorem dX4_hasRoomBeside_81 : decode cX4_hasRoomBeside 81 = .ok (.goto (-71), 3) := by decide +kernel
theorem dX4_hasRoomBeside_84 : decode cX4_hasRoomBeside 84 = .ok (.iload_n 2, 1) := by decide +kernel
theorem dX4_hasRoomBeside_85 : decode cX4_hasRoomBeside 85 = .ok (.iload_n 3, 1) := by decide +kernel
theorem dX4_hasRoomBeside_86 : decode cX4_hasRoomBeside 86 = .ok (.if_icmp .lt 7, 3) := by decide +kernel
theorem dX4_hasRoomBeside_89 : decode cX4_hasRoomBeside 89 = .ok (.iconst 1, 1) := by decide +kernel
theorem dX4_hasRoomBeside_90 : decode cX4_hasRoomBeside 90 = .ok (.goto 4, 3) := by decide +kernel
theorem dX4_hasRoomBeside_93 : decode cX4_hasRoomBeside 93 = .ok (.iconst 0, 1) := by decide +kernel
theorem dX4_hasRoomBeside_94 : decode cX4_hasRoomBeside 94 = .ok (.ireturn, 1) := by decide +kernel
theorem dX4_limitAt_0 : decode cX4_limitAt 0 = .ok (.aload_n 0, 1) := by decide +kernel
theorem dX4_limitAt_1 : decode cX4_limitAt 1 = .ok (.getfield 15, 3) := by decide +kernel
theorem dX4_limitAt_4 : decode cX4_limitAt 4 = .ok (.istore_n 2, 1) := by decide +kernel
theorem dX4_limitAt_5 : decode cX4_limitAt 5 = .ok (.iconst 0, 1) := by decide +kernel
theorem dX4_limitAt_6 : decode cX4_limitAt 6 = .ok (.istore_n 3, 1) := by decide +kernel
theorem dX4_limitAt_7 : decode cX4_limitAt 7 = .ok (.iload_n 3, 1) := by decide +kernel
theorem dX4_limitAt_8 : decode cX4_limitAt 8 = .ok (.aload_n 0, 1) := by decide +kernel
theorem dX4_limitAt_9 : decode cX4_limitAt 9 = .ok (.getfield 27, 3) := by decide +kernel
theorem dX4_limitAt_12 : decode cX4_limitAt 12 = .ok (.if_icmp .ge 50, 3) := by decide +kernel
theorem dX4_limitAt_15 : decode cX4_limitAt 15 = .ok (.aload_n 0, 1) := by decide +kernel
theorem dX4_limitAt_16 : decode cX4_limitAt 16 = .ok (.aload_n 0, 1) := by decide +kernel
theorem dX4_limitAt_17 : decode cX4_limitAt 17 = .ok (.getfield 45, 3) := by decide +kernel
theorem dX4_limitAt_20 : decode cX4_limitAt 20 = .ok (.iload_n 3, 1) := by decide +kernel
theorem dX4_limitAt_21 : decode cX4_limitAt 21 = .ok (.iaload, 1) := by decide +kernel
theorem dX4_limitAt_22 : decode cX4_limitAt 22 = .ok (.iload_n 1, 1) := by decide +kernel
theorem dX4_limitAt_23 : decode cX4_limitAt 23 = .ok (.invokevirtual 93, 3) := by decide +kernel
theorem dX4_limitAt_26 : decode cX4_limitAt 26 = .ok (.aload_n 0, 1) := by decide +kernel
theorem dX4_limitAt_27 : decode cX4_limitAt 27 = .ok (.aload_n 0, 1) := by decide +kernel
theorem dX4_limitAt_28 : decode cX4_limitAt 28 = .ok (.getfield 45, 3) := by decide +kernel
theorem dX4_limitAt_31 : decode cX4_limitAt 31 = .ok (.iload_n 3, 1) := by decide +kernel
theorem dX4_limitAt_32 : decode cX4_limitAt 32 = .ok (.iaload, 1) := by decide +kernel
theorem dX4_limitAt_33 : decode cX4_limitAt 33 = .ok (.aload_n 0, 1) := by decide +kernel
theorem dX4_limitAt_34 : decode cX4_limitAt 34 = .ok (.getfield 49, 3) := by decide +kernel
theorem dX4_limitAt_37 : decode cX4_limitAt 37 = .ok (.iload_n 3, 1) := by decide +kernel
theorem dX4_limitAt_38 : decode cX4_limitAt 38 = .ok (.iaload, 1) := by decide +kernel
theorem dX4_limitAt_39 : decode cX4_limitAt 39 = .ok (.invokevirtual 93, 3) := by decide +kernel
theorem dX4_limitAt_42 : decode cX4_limitAt 42 = .ok (.if_icmp .gt 14, 3) := by decide +kernel
theorem dX4_limitAt_45 : decode cX4_limitAt 45 = .ok (.iload_n 2, 1) := by decide +kernel
theorem dX4_limitAt_46 : decode cX4_limitAt 46 = .ok (.aload_n 0, 1) := by decide +kernel
theorem dX4_limitAt_47 : decode cX4_limitAt 47 = .ok (.getfield 52, 3) := by decide +kernel
theorem dX4_limitAt_50 : decode cX4_limitAt 50 = .ok (.iload_n 3, 1) := by decide +kernel
theorem dX4_limitAt_51 : decode cX4_limitAt 51 = .ok (.iaload, 1) := by decide +kernel
theorem dX4_limitAt_52 : decode cX4_limitAt 52 = .ok (.invokestatic 156, 3) := by decide +kernel
theorem dX4_limitAt_55 : decode cX4_limitAt 55 = .ok (.istore_n 2, 1) := by decide +kernel
theorem dX4_limitAt_56 : decode cX4_limitAt 56 = .ok (.iinc 3 1, 3) := by decide +kernel
theorem dX4_limitAt_59 : decode cX4_limitAt 59 = .ok (.goto (-52), 3) := by decide +kernel
theorem dX4_limitAt_62 : decode cX4_limitAt 62 = .ok (.iload_n 2, 1) := by decide +kernel
theorem dX4_limitAt_63 : decode cX4_limitAt 63 = .ok (.ireturn, 1) := by decide +kernel
theorem dX4_goOn_0 : decode cX4_goOn 0 = .ok (.iconst 0, 1) := by decide +kernel
theorem dX4_goOn_1 : decode cX4_goOn 1 = .ok (.istore_n 2, 1) := by decide +kernel
theorem dX4_goOn_2 : decode cX4_goOn 2 = .ok (.iload_n 2, 1) := by decide +kernel
theorem dX4_goOn_3 : decode cX4_goOn 3 = .ok (.aload_n 0, 1) := by decide +kernel
theorem dX4_goOn_4 : decode cX4_goOn 4 = .ok (.getfield 30, 3) := by decide +kernel
theorem dX4_goOn_7 : decode cX4_goOn 7 = .ok (.if_icmp .ge 59, 3) := by decide +kernel
theorem dX4_goOn_10 : decode cX4_goOn 10 = .ok (.aload_n 0, 1) := by decide +kernel
theorem dX4_goOn_11 : decode cX4_goOn 11 = .ok (.aload_n 1, 1) := by decide +kernel
theorem dX4_goOn_12 : decode cX4_goOn 12 = .ok (.getfield 80, 3) := by decide +kernel
theorem dX4_goOn_15 : decode cX4_goOn 15 = .ok (.aload_n 0, 1) := by decide +kernel
theorem dX4_goOn_16 : decode cX4_goOn 16 = .ok (.getfield 55, 3) := by decide +kernel
theorem dX4_goOn_19 : decode cX4_goOn 19 = .ok (.iload_n 2, 1) := by decide +kernel
theorem dX4_goOn_20 : decode cX4_goOn 20 = .ok (.iaload, 1) := by decide +kernel
theorem dX4_goOn_21 : decode cX4_goOn 21 = .ok (.invokevirtual 93, 3) := by decide +kernel
theorem dX4_goOn_24 : decode cX4_goOn 24 = .ok (.istore_n 3, 1) := by decide +kernel
theorem dX4_goOn_25 : decode cX4_goOn 25 = .ok (.iload_n 3, 1) := by decide +kernel
theorem dX4_goOn_26 : decode cX4_goOn 26 = .ok (.ifCond .le 34, 3) := by decide +kernel
theorem dX4_goOn_29 : decode cX4_goOn 29 = .ok (.iload_n 3, 1) := by decide +kernel
theorem dX4_goOn_30 : decode cX4_goOn 30 = .ok (.aload_n 1, 1) := by decide +kernel
theorem dX4_goOn_31 : decode cX4_goOn 31 = .ok (.getfield 83, 3) := by decide +kernel
theorem dX4_goOn_34 : decode cX4_goOn 34 = .ok (.if_icmp .gt 26, 3) := by decide +kernel
theorem dX4_goOn_37 : decode cX4_goOn 37 = .ok (.aload_n 0, 1) := by decide +kernel
theorem dX4_goOn_38 : decode cX4_goOn 38 = .ok (.getfield 58, 3) := by decide +kernel
theorem dX4_goOn_41 : decode cX4_goOn 41 = .ok (.iload_n 2, 1) := by decide +kernel
theorem dX4_goOn_42 : decode cX4_goOn 42 = .ok (.dup2, 1) := by decide +kernel
theorem dX4_goOn_43 : decode cX4_goOn 43 = .ok (.iaload, 1) := by decide +kernel
theorem dX4_goOn_44 : decode cX4_goOn 44 = .ok (.iconst 1, 1) := by decide +kernel
theorem dX4_goOn_45 : decode cX4_goOn 45 = .ok (.iadd, 1) := by decide +kernel
theorem dX4_goOn_46 : decode cX4_goOn 46 = .ok (.iastore, 1) := by decide +kernel
theorem dX4_goOn_47 : decode cX4_goOn 47 = .ok (.aload_n 0, 1) := by decide +kernel
theorem dX4_goOn_48 : decode cX4_goOn 48 = .ok (.getfield 61, 3) := by decide +kernel
theorem dX4_goOn_51 : decode cX4_goOn 51 = .ok (.iload_n 2, 1) := by decide +kernel
theorem dX4_goOn_52 : decode cX4_goOn 52 = .ok (.dup2, 1) := by decide +kernel
theorem dX4_goOn_53 : decode cX4_goOn 53 = .ok (.iaload, 1) := by decide +kernel
theorem dX4_goOn_54 : decode cX4_goOn 54 = .ok (.aload_n 1, 1) := by decide +kernel
theorem dX4_goOn_55 : decode cX4_goOn 55 = .ok (.getfield 83, 3) := by decide +kernel
theorem dX4_goOn_58 : decode cX4_goOn 58 = .ok (.iadd, 1) := by decide +kernel
theorem dX4_goOn_59 : decode cX4_goOn 59 = .ok (.iastore, 1) := by decide +kernel
theorem dX4_goOn_60 : decode cX4_goOn 60 = .ok (.iinc 2 1, 3) := by decide +kernel
theorem dX4_goOn_63 : decode cX4_goOn 63 = .ok (.goto (-61), 3) := by decide +kernel
theorem dX4_goOn_66 : decode cX4_goOn 66 = .ok (.aload_n 1, 1) := by decide +kernel
theorem dX4_goOn_67 : decode cX4_goOn 67 = .ok (.getfield 80, 3) := by decide +kernel
theorem dX4_goOn_70 : decode cX4_goOn 70 = .ok (.aload_n 1, 1) := by decide +kernel
theorem dX4_goOn_71 : decode cX4_goOn 71 = .ok (.getfield 83, 3) := by decide +kernel
theorem dX4_goOn_74 : decode cX4_goOn 74 = .ok (.iadd, 1) := by decide +kernel
theorem dX4_goOn_75 : decode cX4_goOn 75 = .ok (.istore_n 2, 1) := by decide +kernel
theorem dX4_goOn_76 : decode cX4_goOn 76 = .ok (.aload_n 1, 1) := by decide +kernel
theorem dX4_goOn_77 : decode cX4_goOn 77 = .ok (.iload_n 2, 1) := by decide +kernel
theorem dX4_goOn_78 : decode cX4_goOn 78 = .ok (.aload_n 0, 1) := by decide +kernel
theorem dX4_goOn_79 : decode cX4_goOn 79 = .ok (.getfield 9, 3) := by decide +kernel
theorem dX4_goOn_82 : decode cX4_goOn 82 = .ok (.if_icmp .lt 12, 3) := by decide +kernel
theorem dX4_goOn_85 : decode cX4_goOn 85 = .ok (.iload_n 2, 1) := by decide +kernel
theorem dX4_goOn_86 : decode cX4_goOn 86 = .ok (.aload_n 0, 1) := by decide +kernel
theorem dX4_goOn_87 : decode cX4_goOn 87 = .ok (.getfield 9, 3) := by decide +kernel
theorem dX4_goOn_90 : decode cX4_goOn 90 = .ok (.isub, 1) := by decide +kernel
theorem dX4_goOn_91 : decode cX4_goOn 91 = .ok (.goto 4, 3) := by decide +kernel
theorem dX4_goOn_94 : decode cX4_goOn 94 = .ok (.iload_n 2, 1) := by decide +kernel
theorem dX4_goOn_95 : decode cX4_goOn 95 = .ok (.putfield 80, 3) := by decide +kernel
theorem dX4_goOn_98 : decode cX4_goOn 98 = .ok (.aload_n 1, 1) := by decide +kernel
theorem dX4_goOn_99 : decode cX4_goOn 99 = .ok (.dup, 1) := by decide +kernel
theorem dX4_goOn_100 : decode cX4_goOn 100 = .ok (.getfield 90, 3) := by decide +kernel
theorem dX4_goOn_103 : decode cX4_goOn 103 = .ok (.aload_n 1, 1) := by decide +kernel
theorem dX4_goOn_104 : decode cX4_goOn 104 = .ok (.getfield 83, 3) := by decide +kernel
theorem dX4_goOn_107 : decode cX4_goOn 107 = .ok (.iadd, 1) := by decide +kernel
theorem dX4_goOn_108 : decode cX4_goOn 108 = .ok (.putfield 90, 3) := by decide +kernel
theorem dX4_goOn_111 : decode cX4_goOn 111 = .ok (.return_, 1) := by decide +kernel
theorem dX4_markFirst_0 : decode cX4_markFirst 0 = .ok (.aload_n 0, 1) := by decide +kernel
theorem dX4_markFirst_1 : decode cX4_markFirst 1 = .ok (.invokevirtual 161, 3) := by decide +kernel
theorem dX4_markFirst_4 : decode cX4_markFirst 4 = .ok (.ifCond .eq 9, 3) := by decide +kernel
theorem dX4_markFirst_7 : decode cX4_markFirst 7 = .ok (.aload_n 0, 1) := by decide +kernel
theorem dX4_markFirst_8 : decode cX4_markFirst 8 = .ok (.bipush (-4), 2) := by decide +kernel
theorem dX4_markFirst_10 : decode cX4_markFirst 10 = .ok (.putfield 21, 3) := by decide +kernel
theorem dX4_markFirst_13 : decode cX4_markFirst 13 = .ok (.iconst 0, 1) := by decide +kernel
theorem dX4_markFirst_14 : decode cX4_markFirst 14 = .ok (.istore_n 1, 1) := by decide +kernel
theorem dX4_markFirst_15 : decode cX4_markFirst 15 = .ok (.iload_n 1, 1) := by decide +kernel
theorem dX4_markFirst_16 : decode cX4_markFirst 16 = .ok (.aload_n 0, 1) := by decide +kernel
theorem dX4_markFirst_17 : decode cX4_markFirst 17 = .ok (.getfield 24, 3) := by decide +kernel
theorem dX4_markFirst_20 : decode cX4_markFirst 20 = .ok (.if_icmp .ge 35, 3) := by decide +kernel
theorem dX4_markFirst_23 : decode cX4_markFirst 23 = .ok (.aload_n 0, 1) := by decide +kernel
theorem dX4_markFirst_24 : decode cX4_markFirst 24 = .ok (.getfield 21, 3) := by decide +kernel
theorem dX4_markFirst_27 : decode cX4_markFirst 27 = .ok (.bipush (-4), 2) := by decide +kernel
theorem dX4_markFirst_29 : decode cX4_markFirst 29 = .ok (.if_icmp .ne 26, 3) := by decide +kernel
theorem dX4_markFirst_32 : decode cX4_markFirst 32 = .ok (.aload_n 0, 1) := by decide +kernel
theorem dX4_markFirst_33 : decode cX4_markFirst 33 = .ok (.getfield 35, 3) := by decide +kernel
theorem dX4_markFirst_36 : decode cX4_markFirst 36 = .ok (.iload_n 1, 1) := by decide +kernel
theorem dX4_markFirst_37 : decode cX4_markFirst 37 = .ok (.aaload, 1) := by decide +kernel
theorem dX4_markFirst_38 : decode cX4_markFirst 38 = .ok (.getfield 83, 3) := by decide +kernel
theorem dX4_markFirst_41 : decode cX4_markFirst 41 = .ok (.ifCond .ne 8, 3) := by decide +kernel
theorem dX4_markFirst_44 : decode cX4_markFirst 44 = .ok (.aload_n 0, 1) := by decide +kernel
theorem dX4_markFirst_45 : decode cX4_markFirst 45 = .ok (.iload_n 1, 1) := by decide +kernel
theorem dX4_markFirst_46 : decode cX4_markFirst 46 = .ok (.putfield 21, 3) := by decide +kernel
theorem dX4_markFirst_49 : decode cX4_markFirst 49 = .ok (.iinc 1 1, 3) := by decide +kernel
theorem dX4_markFirst_52 : decode cX4_markFirst 52 = .ok (.goto (-37), 3) := by decide +kernel
theorem dX4_markFirst_55 : decode cX4_markFirst 55 = .ok (.return_, 1) := by decide +kernel
theorem dX5_init_0 : decode cX5_init 0 = .ok (.aload_n 0, 1) := by decide +kernel
theorem dX5_init_1 : decode cX5_init 1 = .ok (.invokespecial 3, 3) := by decide +kernel
theorem dX5_init_4 : decode cX5_init 4 = .ok (.aload_n 0, 1) := by decide +kernel
theorem dX5_init_5 : decode cX5_init 5 = .ok (.iconst (-1), 1) := by decide +kernel
theorem dX5_init_6 : decode cX5_init 6 = .ok (.putfield 9, 3) := by decide +kernel
theorem dX5_init_9 : decode cX5_init 9 = .ok (.aload_n 0, 1) := by decide +kernel
theorem dX5_init_10 : decode cX5_init 10 = .ok (.iconst 0, 1) := by decide +kernel
theorem dX5_init_11 : decode cX5_init 11 = .ok (.putfield 15, 3) := by decide +kernel
theorem dX5_init_14 : decode cX5_init 14 = .ok (.aload_n 0, 1) := by decide +kernel
theorem dX5_init_15 : decode cX5_init 15 = .ok (.bipush 36, 2) := by decide +kernel
theorem dX5_init_17 : decode cX5_init 17 = .ok (.newarray .int, 2) := by decide +kernel
theorem dX5_init_19 : decode cX5_init 19 = .ok (.putfield 18, 3) := by decide +kernel
theorem dX5_init_22 : decode cX5_init 22 = .ok (.return_, 1) := by decide +kernel
theorem dX5_begin_0 : decode cX5_begin 0 = .ok (.aload_n 0, 1) := by decide +kernel
theorem dX5_begin_1 : decode cX5_begin 1 = .ok (.iload_n 1, 1) := by decide +kernel
theorem dX5_begin_2 : decode cX5_begin 2 = .ok (.putfield 9, 3) := by decide +kernel
theorem dX5_begin_5 : decode cX5_begin 5 = .ok (.aload_n 0, 1) := by decide +kernel
theorem dX5_begin_6 : decode cX5_begin 6 = .ok (.iload_n 2, 1) := by decide +kernel
theorem dX5_begin_7 : decode cX5_begin 7 = .ok (.putfield 15, 3) := by decide +kernel
theorem dX5_begin_10 : decode cX5_begin 10 = .ok (.aload_n 0, 1) := by decide +kernel
theorem dX5_begin_11 : decode cX5_begin 11 = .ok (.getfield 18, 3) := by decide +kernel
theorem dX5_begin_14 : decode cX5_begin 14 = .ok (.iconst 0, 1) := by decide +kernel
theorem dX5_begin_15 : decode cX5_begin 15 = .ok (.invokestatic 22, 3) := by decide +kernel
theorem dX5_begin_18 : decode cX5_begin 18 = .ok (.return_, 1) := by decide +kernel
theorem dX5_lookedAt_0 : decode cX5_lookedAt 0 = .ok (.aload_n 0, 1) := by decide +kernel
theorem dX5_lookedAt_1 : decode cX5_lookedAt 1 = .ok (.getfield 9, 3) := by decide +kernel
theorem dX5_lookedAt_4 : decode cX5_lookedAt 4 = .ok (.iconst (-1), 1) := by decide +kernel
theorem dX5_lookedAt_5 : decode cX5_lookedAt 5 = .ok (.if_icmp .ne 6, 3) := by decide +kernel
theorem dX5_lookedAt_8 : decode cX5_lookedAt 8 = .ok (.bipush (-11), 2) := by decide +kernel
theorem dX5_lookedAt_10 : decode cX5_lookedAt 10 = .ok (.ireturn, 1) := by decide +kernel
theorem dX5_lookedAt_11 : decode cX5_lookedAt 11 = .ok (.aload_n 0, 1) := by decide +kernel
theorem dX5_lookedAt_12 : decode cX5_lookedAt 12 = .ok (.getfield 9, 3) := by decide +kernel
theorem dX5_lookedAt_15 : decode cX5_lookedAt 15 = .ok (.iload_n 1, 1) := by decide +kernel
theorem dX5_lookedAt_16 : decode cX5_lookedAt 16 = .ok (.if_icmp .eq 6, 3) := by decide +kernel
theorem dX5_lookedAt_19 : decode cX5_lookedAt 19 = .ok (.bipush (-12), 2) := by decide +kernel
theorem dX5_lookedAt_21 : decode cX5_lookedAt 21 = .ok (.ireturn, 1) := by decide +kernel
theorem dX5_lookedAt_22 : decode cX5_lookedAt 22 = .ok (.aload_n 0, 1) := by decide +kernel
theorem dX5_lookedAt_23 : decode cX5_lookedAt 23 = .ok (.iload_n 2, 1) := by decide +kernel
theorem dX5_lookedAt_24 : decode cX5_lookedAt 24 = .ok (.iload_n 3, 1) := by decide +kernel
theorem dX5_lookedAt_25 : decode cX5_lookedAt 25 = .ok (.invokevirtual 28, 3) := by decide +kernel
theorem dX5_lookedAt_28 : decode cX5_lookedAt 28 = .ok (.ifCond .eq 7, 3) := by decide +kernel
theorem dX5_lookedAt_31 : decode cX5_lookedAt 31 = .ok (.iconst 0, 1) := by decide +kernel
theorem dX5_lookedAt_32 : decode cX5_lookedAt 32 = .ok (.goto 5, 3) := by decide +kernel
theorem dX5_lookedAt_35 : decode cX5_lookedAt 35 = .ok (.bipush (-13), 2) := by decide +kernel
theorem dX5_lookedAt_37 : decode cX5_lookedAt 37 = .ok (.ireturn, 1) := by decide +kernel
theorem dX5_hasItems_0 : decode cX5_hasItems 0 = .ok (.iload_n 2, 1) := by decide +kernel
theorem dX5_hasItems_1 : decode cX5_hasItems 1 = .ok (.ifCond .lt 21, 3) := by decide +kernel
theorem dX5_hasItems_4 : decode cX5_hasItems 4 = .ok (.iload_n 1, 1) := by decide +kernel
theorem dX5_hasItems_5 : decode cX5_hasItems 5 = .ok (.ifCond .lt 17, 3) := by decide +kernel
theorem dX5_hasItems_8 : decode cX5_hasItems 8 = .ok (.iload_n 1, 1) := by decide +kernel
theorem dX5_hasItems_9 : decode cX5_hasItems 9 = .ok (.aload_n 0, 1) := by decide +kernel
theorem dX5_hasItems_10 : decode cX5_hasItems 10 = .ok (.getfield 15, 3) := by decide +kernel
theorem dX5_hasItems_13 : decode cX5_hasItems 13 = .ok (.iload_n 2, 1) := by decide +kernel
theorem dX5_hasItems_14 : decode cX5_hasItems 14 = .ok (.isub, 1) := by decide +kernel
theorem dX5_hasItems_15 : decode cX5_hasItems 15 = .ok (.if_icmp .gt 7, 3) := by decide +kernel
theorem dX5_hasItems_18 : decode cX5_hasItems 18 = .ok (.iconst 1, 1) := by decide +kernel
theorem dX5_hasItems_19 : decode cX5_hasItems 19 = .ok (.goto 4, 3) := by decide +kernel
theorem dX5_hasItems_22 : decode cX5_hasItems 22 = .ok (.iconst 0, 1) := by decide +kernel
theorem dX5_hasItems_23 : decode cX5_hasItems 23 = .ok (.ireturn, 1) := by decide +kernel
theorem dX5_put_0 : decode cX5_put 0 = .ok (.aload_n 0, 1) := by decide +kernel
theorem dX5_put_1 : decode cX5_put 1 = .ok (.getfield 9, 3) := by decide +kernel
theorem dX5_put_4 : decode cX5_put 4 = .ok (.ifCond .ne 21, 3) := by decide +kernel
theorem dX5_put_7 : decode cX5_put 7 = .ok (.aload_n 0, 1) := by decide +kernel
theorem dX5_put_8 : decode cX5_put 8 = .ok (.getfield 18, 3) := by decide +kernel
theorem dX5_put_11 : decode cX5_put 11 = .ok (.iload_n 1, 1) := by decide +kernel
theorem dX5_put_12 : decode cX5_put 12 = .ok (.iload_n 2, 1) := by decide +kernel
theorem dX5_put_13 : decode cX5_put 13 = .ok (.ifCond .eq 7, 3) := by decide +kernel
theorem dX5_put_16 : decode cX5_put 16 = .ok (.iconst 1, 1) := by decide +kernel
theorem dX5_put_17 : decode cX5_put 17 = .ok (.goto 4, 3) := by decide +kernel
theorem dX5_put_20 : decode cX5_put 20 = .ok (.iconst 0, 1) := by decide +kernel
theorem dX5_put_21 : decode cX5_put 21 = .ok (.iastore, 1) := by decide +kernel
theorem dX5_put_22 : decode cX5_put 22 = .ok (.goto 23, 3) := by decide +kernel
theorem dX5_put_25 : decode cX5_put 25 = .ok (.aload_n 0, 1) := by decide +kernel
theorem dX5_put_26 : decode cX5_put 26 = .ok (.getfield 18, 3) := by decide +kernel
theorem dX5_put_29 : decode cX5_put 29 = .ok (.iload_n 1, 1) := by decide +kernel
theorem dX5_put_30 : decode cX5_put 30 = .ok (.aload_n 0, 1) := by decide +kernel
theorem dX5_put_31 : decode cX5_put 31 = .ok (.getfield 9, 3) := by decide +kernel
theorem dX5_put_34 : decode cX5_put 34 = .ok (.iconst 1, 1) := by decide +kernel
theorem dX5_put_35 : decode cX5_put 35 = .ok (.if_icmp .ne 8, 3) := by decide +kernel
theorem dX5_put_38 : decode cX5_put 38 = .ok (.iload_n 2, 1) := by decide +kernel
theorem dX5_put_39 : decode cX5_put 39 = .ok (.i2b, 1) := by decide +kernel
theorem dX5_put_40 : decode cX5_put 40 = .ok (.goto 4, 3) := by decide +kernel
theorem dX5_put_43 : decode cX5_put 43 = .ok (.iload_n 2, 1) := by decide +kernel
theorem dX5_put_44 : decode cX5_put 44 = .ok (.iastore, 1) := by decide +kernel
theorem dX5_put_45 : decode cX5_put 45 = .ok (.return_, 1) := by decide +kernel
theorem dX6_init_0 : decode cX6_init 0 = .ok (.aload_n 0, 1) := by decide +kernel
theorem dX6_init_1 : decode cX6_init 1 = .ok (.invokespecial 3, 3) := by decide +kernel
theorem dX6_init_4 : decode cX6_init 4 = .ok (.aload_n 0, 1) := by decide +kernel
theorem dX6_init_5 : decode cX6_init 5 = .ok (.iconst 2, 1) := by decide +kernel
theorem dX6_init_6 : decode cX6_init 6 = .ok (.anewarray 9, 3) := by decide +kernel
theorem dX6_init_9 : decode cX6_init 9 = .ok (.putfield 11, 3) := by decide +kernel
theorem dX6_init_12 : decode cX6_init 12 = .ok (.aload_n 0, 1) := by decide +kernel
theorem dX6_init_13 : decode cX6_init 13 = .ok (.iconst 2, 1) := by decide +kernel
theorem dX6_init_14 : decode cX6_init 14 = .ok (.newarray .boolean, 2) := by decide +kernel
theorem dX6_init_16 : decode cX6_init 16 = .ok (.putfield 15, 3) := by decide +kernel
theorem dX6_init_19 : decode cX6_init 19 = .ok (.aload_n 0, 1) := by decide +kernel
theorem dX6_init_20 : decode cX6_init 20 = .ok (.new 19, 3) := by decide +kernel
theorem dX6_init_23 : decode cX6_init 23 = .ok (.dup, 1) := by decide +kernel
theorem dX6_init_24 : decode cX6_init 24 = .ok (.invokespecial 21, 3) := by decide +kernel
theorem dX6_init_27 : decode cX6_init 27 = .ok (.putfield 22, 3) := by decide +kernel
theorem dX6_init_30 : decode cX6_init 30 = .ok (.aload_n 0, 1) := by decide +kernel
theorem dX6_init_31 : decode cX6_init 31 = .ok (.iconst 4, 1) := by decide +kernel
theorem dX6_init_32 : decode cX6_init 32 = .ok (.anewarray 26, 3) := by decide +kernel
theorem dX6_init_35 : decode cX6_init 35 = .ok (.putfield 28, 3) := by decide +kernel
theorem dX6_init_38 : decode cX6_init 38 = .ok (.new 32, 3) := by decide +kernel
theorem dX6_init_41 : decode cX6_init 41 = .ok (.dup, 1) := by decide +kernel
theorem dX6_init_42 : decode cX6_init 42 = .ok (.invokespecial 34, 3) := by decide +kernel
theorem dX6_init_45 : decode cX6_init 45 = .ok (.astore_n 1, 1) := by decide +kernel
theorem dX6_init_46 : decode cX6_init 46 = .ok (.new 35, 3) := by decide +kernel
theorem dX6_init_49 : decode cX6_init 49 = .ok (.dup, 1) := by decide +kernel
theorem dX6_init_50 : decode cX6_init 50 = .ok (.aload_n 1, 1) := by decide +kernel
theorem dX6_init_51 : decode cX6_init 51 = .ok (.invokespecial 37, 3) := by decide +kernel
theorem dX6_init_54 : decode cX6_init 54 = .ok (.astore_n 2, 1) := by decide +kernel
theorem dX6_init_55 : decode cX6_init 55 = .ok (.aload_n 0, 1) := by decide +kernel
theorem dX6_init_56 : decode cX6_init 56 = .ok (.aload_n 1, 1) := by decide +kernel
theorem dX6_init_57 : decode cX6_init 57 = .ok (.putfield 40, 3) := by decide +kernel
theorem dX6_init_60 : decode cX6_init 60 = .ok (.aload_n 0, 1) := by decide +kernel
theorem dX6_init_61 : decode cX6_init 61 = .ok (.new 9, 3) := by decide +kernel
theorem dX6_init_64 : decode cX6_init 64 = .ok (.dup, 1) := by decide +kernel
theorem dX6_init_65 : decode cX6_init 65 = .ok (.aload_n 2, 1) := by decide +kernel
theorem dX6_init_66 : decode cX6_init 66 = .ok (.invokespecial 44, 3) := by decide +kernel
theorem dX6_init_69 : decode cX6_init 69 = .ok (.putfield 47, 3) := by decide +kernel
theorem dX6_init_72 : decode cX6_init 72 = .ok (.aload_n 0, 1) := by decide +kernel
theorem dX6_init_73 : decode cX6_init 73 = .ok (.new 9, 3) := by decide +kernel
theorem dX6_init_76 : decode cX6_init 76 = .ok (.dup, 1) := by decide +kernel
theorem dX6_init_77 : decode cX6_init 77 = .ok (.aload_n 2, 1) := by decide +kernel
theorem dX6_init_78 : decode cX6_init 78 = .ok (.invokespecial 44, 3) := by decide +kernel
theorem dX6_init_81 : decode cX6_init 81 = .ok (.putfield 51, 3) := by decide +kernel
theorem dX6_init_84 : decode cX6_init 84 = .ok (.iconst 0, 1) := by decide +kernel
theorem dX6_init_85 : decode cX6_init 85 = .ok (.istore_n 3, 1) := by decide +kernel
theorem dX6_init_86 : decode cX6_init 86 = .ok (.iload_n 3, 1) := by decide +kernel
theorem dX6_init_87 : decode cX6_init 87 = .ok (.iconst 2, 1) := by decide +kernel
theorem dX6_init_88 : decode cX6_init 88 = .ok (.if_icmp .ge 23, 3) := by decide +kernel
theorem dX6_init_91 : decode cX6_init 91 = .ok (.aload_n 0, 1) := by decide +kernel
theorem dX6_init_92 : decode cX6_init 92 = .ok (.getfield 11, 3) := by decide +kernel
theorem dX6_init_95 : decode cX6_init 95 = .ok (.iload_n 3, 1) := by decide +kernel
theorem dX6_init_96 : decode cX6_init 96 = .ok (.new 9, 3) := by decide +kernel
theorem dX6_init_99 : decode cX6_init 99 = .ok (.dup, 1) := by decide +kernel
theorem dX6_init_100 : decode cX6_init 100 = .ok (.aload_n 2, 1) := by decide +kernel
theorem dX6_init_101 : decode cX6_init 101 = .ok (.invokespecial 44, 3) := by decide +kernel
theorem dX6_init_104 : decode cX6_init 104 = .ok (.aastore, 1) := by decide +kernel
theorem dX6_init_105 : decode cX6_init 105 = .ok (.iinc 3 1, 3) := by decide +kernel
theorem dX6_init_108 : decode cX6_init 108 = .ok (.goto (-22), 3) := by decide +kernel
theorem dX6_init_111 : decode cX6_init 111 = .ok (.iconst 0, 1) := by decide +kernel
theorem dX6_init_112 : decode cX6_init 112 = .ok (.istore_n 3, 1) := by decide +kernel
theorem dX6_init_113 : decode cX6_init 113 = .ok (.iload_n 3, 1) := by decide +kernel
theorem dX6_init_114 : decode cX6_init 114 = .ok (.iconst 4, 1) := by decide +kernel
theorem dX6_init_115 : decode cX6_init 115 = .ok (.if_icmp .ge 22, 3) := by decide +kernel
theorem dX6_init_118 : decode cX6_init 118 = .ok (.aload_n 0, 1) := by decide +kernel
theorem dX6_init_119 : decode cX6_init 119 = .ok (.getfield 28, 3) := by decide +kernel
theorem dX6_init_122 : decode cX6_init 122 = .ok (.iload_n 3, 1) := by decide +kernel
theorem dX6_init_123 : decode cX6_init 123 = .ok (.new 26, 3) := by decide +kernel
theorem dX6_init_126 : decode cX6_init 126 = .ok (.dup, 1) := by decide +kernel
theorem dX6_init_127 : decode cX6_init 127 = .ok (.invokespecial 54, 3) := by decide +kernel
theorem dX6_init_130 : decode cX6_init 130 = .ok (.aastore, 1) := by decide +kernel
theorem dX6_init_131 : decode cX6_init 131 = .ok (.iinc 3 1, 3) := by decide +kernel
theorem dX6_init_134 : decode cX6_init 134 = .ok (.goto (-21), 3) := by decide +kernel
theorem dX6_init_137 : decode cX6_init 137 = .ok (.return_, 1) := by decide +kernel
theorem dX6_ring_0 : decode cX6_ring 0 = .ok (.iload_n 1, 1) := by decide +kernel
theorem dX6_ring_1 : decode cX6_ring 1 = .ok (.ifCond .ne 9, 3) := by decide +kernel
theorem dX6_ring_4 : decode cX6_ring 4 = .ok (.aload_n 0, 1) := by decide +kernel
theorem dX6_ring_5 : decode cX6_ring 5 = .ok (.iload_n 2, 1) := by decide +kernel
theorem dX6_ring_6 : decode cX6_ring 6 = .ok (.invokevirtual 55, 3) := by decide +kernel
theorem dX6_ring_9 : decode cX6_ring 9 = .ok (.ireturn, 1) := by decide +kernel
theorem dX6_ring_10 : decode cX6_ring 10 = .ok (.iload_n 1, 1) := by decide +kernel
theorem dX6_ring_11 : decode cX6_ring 11 = .ok (.iconst 1, 1) := by decide +kernel
theorem dX6_ring_12 : decode cX6_ring 12 = .ok (.if_icmp .ne 13, 3) := by decide +kernel
theorem dX6_ring_15 : decode cX6_ring 15 = .ok (.iload_n 2, 1) := by decide +kernel
theorem dX6_ring_16 : decode cX6_ring 16 = .ok (.iconst 1, 1) := by decide +kernel
theorem dX6_ring_17 : decode cX6_ring 17 = .ok (.bipush 9, 2) := by decide +kernel
theorem dX6_ring_19 : decode cX6_ring 19 = .ok (.invokestatic 59, 3) := by decide +kernel
theorem dX6_ring_22 : decode cX6_ring 22 = .ok (.ifCond .ne 5, 3) := by decide +kernel
theorem dX6_ring_25 : decode cX6_ring 25 = .ok (.iconst (-1), 1) := by decide +kernel
theorem dX6_ring_26 : decode cX6_ring 26 = .ok (.ireturn, 1) := by decide +kernel
theorem dX6_ring_27 : decode cX6_ring 27 = .ok (.aload_n 0, 1) := by decide +kernel
theorem dX6_ring_28 : decode cX6_ring 28 = .ok (.getfield 47, 3) := by decide +kernel
theorem dX6_ring_31 : decode cX6_ring 31 = .ok (.getfield 63, 3) := by decide +kernel
theorem dX6_ring_34 : decode cX6_ring 34 = .ok (.istore_n 3, 1) := by decide +kernel
theorem dX6_ring_35 : decode cX6_ring 35 = .ok (.aload_n 0, 1) := by decide +kernel
theorem dX6_ring_36 : decode cX6_ring 36 = .ok (.getfield 47, 3) := by decide +kernel
theorem dX6_ring_39 : decode cX6_ring 39 = .ok (.iload_n 2, 1) := by decide +kernel
theorem dX6_ring_40 : decode cX6_ring 40 = .ok (.putfield 63, 3) := by decide +kernel
theorem dX6_ring_43 : decode cX6_ring 43 = .ok (.iload_n 3, 1) := by decide +kernel
theorem dX6_ring_44 : decode cX6_ring 44 = .ok (.ireturn, 1) := by decide +kernel
theorem dX6_changeLength_0 : decode cX6_changeLength 0 = .ok (.iload_n 1, 1) := by decide +kernel
theorem dX6_changeLength_1 : decode cX6_changeLength 1 = .ok (.bipush 12, 2) := by decide +kernel
theorem dX6_changeLength_3 : decode cX6_changeLength 3 = .ok (.bipush 99, 2) := by decide +kernel
theorem dX6_changeLength_5 : decode cX6_changeLength 5 = .ok (.invokestatic 59, 3) := by decide +kernel
theorem dX6_changeLength_8 : decode cX6_changeLength 8 = .ok (.ifCond .ne 5, 3) := by decide +kernel
theorem dX6_changeLength_11 : decode cX6_changeLength 11 = .ok (.iconst (-1), 1) := by decide +kernel
theorem dX6_changeLength_12 : decode cX6_changeLength 12 = .ok (.ireturn, 1) := by decide +kernel
theorem dX6_changeLength_13 : decode cX6_changeLength 13 = .ok (.aload_n 0, 1) := by decide +kernel
theorem dX6_changeLength_14 : decode cX6_changeLength 14 = .ok (.getfield 47, 3) := by decide +kernel
theorem dX6_changeLength_17 : decode cX6_changeLength 17 = .ok (.getfield 67, 3) := by decide +kernel
theorem dX6_changeLength_20 : decode cX6_changeLength 20 = .ok (.ifCond .gt 23, 3) := by decide +kernel
theorem dX6_changeLength_23 : decode cX6_changeLength 23 = .ok (.aload_n 0, 1) := by decide +kernel
theorem dX6_changeLength_24 : decode cX6_changeLength 24 = .ok (.getfield 47, 3) := by decide +kernel
theorem dX6_changeLength_27 : decode cX6_changeLength 27 = .ok (.getfield 70, 3) := by decide +kernel
theorem dX6_changeLength_30 : decode cX6_changeLength 30 = .ok (.ifCond .gt 13, 3) := by decide +kernel
theorem dX6_changeLength_33 : decode cX6_changeLength 33 = .ok (.aload_n 0, 1) := by decide +kernel
theorem dX6_changeLength_34 : decode cX6_changeLength 34 = .ok (.getfield 47, 3) := by decide +kernel
theorem dX6_changeLength_37 : decode cX6_changeLength 37 = .ok (.getfield 73, 3) := by decide +kernel
