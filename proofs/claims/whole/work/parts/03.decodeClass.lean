theorem dX0_init_0 : decode cX0_init 0 = .ok (.aload_n 0, 1) := by decide +kernel
theorem dX0_init_1 : decode cX0_init 1 = .ok (.invokespecial 3, 3) := by decide +kernel
theorem dX0_init_4 : decode cX0_init 4 = .ok (.aload_n 0, 1) := by decide +kernel
theorem dX0_init_5 : decode cX0_init 5 = .ok (.iconst 0, 1) := by decide +kernel
theorem dX0_init_6 : decode cX0_init 6 = .ok (.putfield 9, 3) := by decide +kernel
theorem dX0_init_9 : decode cX0_init 9 = .ok (.aload_n 0, 1) := by decide +kernel
theorem dX0_init_10 : decode cX0_init 10 = .ok (.iconst 0, 1) := by decide +kernel
theorem dX0_init_11 : decode cX0_init 11 = .ok (.putfield 15, 3) := by decide +kernel
theorem dX0_init_14 : decode cX0_init 14 = .ok (.aload_n 0, 1) := by decide +kernel
theorem dX0_init_15 : decode cX0_init 15 = .ok (.iconst 0, 1) := by decide +kernel
theorem dX0_init_16 : decode cX0_init 16 = .ok (.putfield 18, 3) := by decide +kernel
theorem dX0_init_19 : decode cX0_init 19 = .ok (.aload_n 0, 1) := by decide +kernel
theorem dX0_init_20 : decode cX0_init 20 = .ok (.new 21, 3) := by decide +kernel
theorem dX0_init_23 : decode cX0_init 23 = .ok (.dup, 1) := by decide +kernel
theorem dX0_init_24 : decode cX0_init 24 = .ok (.invokespecial 23, 3) := by decide +kernel
theorem dX0_init_27 : decode cX0_init 27 = .ok (.putfield 24, 3) := by decide +kernel
theorem dX0_init_30 : decode cX0_init 30 = .ok (.aload_n 0, 1) := by decide +kernel
theorem dX0_init_31 : decode cX0_init 31 = .ok (.new 28, 3) := by decide +kernel
theorem dX0_init_34 : decode cX0_init 34 = .ok (.dup, 1) := by decide +kernel
theorem dX0_init_35 : decode cX0_init 35 = .ok (.invokespecial 30, 3) := by decide +kernel
theorem dX0_init_38 : decode cX0_init 38 = .ok (.putfield 31, 3) := by decide +kernel
theorem dX0_init_41 : decode cX0_init 41 = .ok (.aload_n 0, 1) := by decide +kernel
theorem dX0_init_42 : decode cX0_init 42 = .ok (.sipush 1040, 3) := by decide +kernel
theorem dX0_init_45 : decode cX0_init 45 = .ok (.newarray .int, 2) := by decide +kernel
theorem dX0_init_47 : decode cX0_init 47 = .ok (.putfield 35, 3) := by decide +kernel
theorem dX0_init_50 : decode cX0_init 50 = .ok (.aload_n 0, 1) := by decide +kernel
theorem dX0_init_51 : decode cX0_init 51 = .ok (.iconst 0, 1) := by decide +kernel
theorem dX0_init_52 : decode cX0_init 52 = .ok (.putfield 39, 3) := by decide +kernel
theorem dX0_init_55 : decode cX0_init 55 = .ok (.return_, 1) := by decide +kernel
theorem dX0_cellThen_0 : decode cX0_cellThen 0 = .ok (.aload_n 0, 1) := by decide +kernel
theorem dX0_cellThen_1 : decode cX0_cellThen 1 = .ok (.getfield 24, 3) := by decide +kernel
theorem dX0_cellThen_4 : decode cX0_cellThen 4 = .ok (.aload_n 1, 1) := by decide +kernel
theorem dX0_cellThen_5 : decode cX0_cellThen 5 = .ok (.invokevirtual 42, 3) := by decide +kernel
theorem dX0_cellThen_8 : decode cX0_cellThen 8 = .ok (.aload_n 0, 1) := by decide +kernel
theorem dX0_cellThen_9 : decode cX0_cellThen 9 = .ok (.getfield 24, 3) := by decide +kernel
theorem dX0_cellThen_12 : decode cX0_cellThen 12 = .ok (.iload 4, 2) := by decide +kernel
theorem dX0_cellThen_14 : decode cX0_cellThen 14 = .ok (.aload_n 2, 1) := by decide +kernel
theorem dX0_cellThen_15 : decode cX0_cellThen 15 = .ok (.invokevirtual 46, 3) := by decide +kernel
theorem dX0_cellThen_18 : decode cX0_cellThen 18 = .ok (.aload_n 0, 1) := by decide +kernel
theorem dX0_cellThen_19 : decode cX0_cellThen 19 = .ok (.getfield 24, 3) := by decide +kernel
theorem dX0_cellThen_22 : decode cX0_cellThen 22 = .ok (.iload_n 3, 1) := by decide +kernel
theorem dX0_cellThen_23 : decode cX0_cellThen 23 = .ok (.bipush 100, 2) := by decide +kernel
theorem dX0_cellThen_25 : decode cX0_cellThen 25 = .ok (.idiv, 1) := by decide +kernel
theorem dX0_cellThen_26 : decode cX0_cellThen 26 = .ok (.iload_n 3, 1) := by decide +kernel
theorem dX0_cellThen_27 : decode cX0_cellThen 27 = .ok (.bipush 100, 2) := by decide +kernel
theorem dX0_cellThen_29 : decode cX0_cellThen 29 = .ok (.irem, 1) := by decide +kernel
theorem dX0_cellThen_30 : decode cX0_cellThen 30 = .ok (.invokevirtual 50, 3) := by decide +kernel
theorem dX0_cellThen_33 : decode cX0_cellThen 33 = .ok (.ireturn, 1) := by decide +kernel
theorem dX0_stepsToSame_0 : decode cX0_stepsToSame 0 = .ok (.aload_n 0, 1) := by decide +kernel
theorem dX0_stepsToSame_1 : decode cX0_stepsToSame 1 = .ok (.getfield 24, 3) := by decide +kernel
theorem dX0_stepsToSame_4 : decode cX0_stepsToSame 4 = .ok (.aload_n 1, 1) := by decide +kernel
theorem dX0_stepsToSame_5 : decode cX0_stepsToSame 5 = .ok (.invokevirtual 42, 3) := by decide +kernel
theorem dX0_stepsToSame_8 : decode cX0_stepsToSame 8 = .ok (.iconst 2, 1) := by decide +kernel
theorem dX0_stepsToSame_9 : decode cX0_stepsToSame 9 = .ok (.istore_n 3, 1) := by decide +kernel
theorem dX0_stepsToSame_10 : decode cX0_stepsToSame 10 = .ok (.iload_n 3, 1) := by decide +kernel
theorem dX0_stepsToSame_11 : decode cX0_stepsToSame 11 = .ok (.sipush 128, 3) := by decide +kernel
theorem dX0_stepsToSame_14 : decode cX0_stepsToSame 14 = .ok (.if_icmp .gt 31, 3) := by decide +kernel
theorem dX0_stepsToSame_17 : decode cX0_stepsToSame 17 = .ok (.aload_n 0, 1) := by decide +kernel
theorem dX0_stepsToSame_18 : decode cX0_stepsToSame 18 = .ok (.getfield 24, 3) := by decide +kernel
theorem dX0_stepsToSame_21 : decode cX0_stepsToSame 21 = .ok (.iconst 2, 1) := by decide +kernel
theorem dX0_stepsToSame_22 : decode cX0_stepsToSame 22 = .ok (.aload_n 2, 1) := by decide +kernel
theorem dX0_stepsToSame_23 : decode cX0_stepsToSame 23 = .ok (.invokevirtual 46, 3) := by decide +kernel
theorem dX0_stepsToSame_26 : decode cX0_stepsToSame 26 = .ok (.aload_n 0, 1) := by decide +kernel
theorem dX0_stepsToSame_27 : decode cX0_stepsToSame 27 = .ok (.getfield 24, 3) := by decide +kernel
theorem dX0_stepsToSame_30 : decode cX0_stepsToSame 30 = .ok (.aload_n 1, 1) := by decide +kernel
theorem dX0_stepsToSame_31 : decode cX0_stepsToSame 31 = .ok (.invokevirtual 54, 3) := by decide +kernel
theorem dX0_stepsToSame_34 : decode cX0_stepsToSame 34 = .ok (.ifCond .eq 5, 3) := by decide +kernel
theorem dX0_stepsToSame_37 : decode cX0_stepsToSame 37 = .ok (.iload_n 3, 1) := by decide +kernel
theorem dX0_stepsToSame_38 : decode cX0_stepsToSame 38 = .ok (.ireturn, 1) := by decide +kernel
theorem dX0_stepsToSame_39 : decode cX0_stepsToSame 39 = .ok (.iinc 3 2, 3) := by decide +kernel
theorem dX0_stepsToSame_42 : decode cX0_stepsToSame 42 = .ok (.goto (-32), 3) := by decide +kernel
theorem dX0_stepsToSame_45 : decode cX0_stepsToSame 45 = .ok (.bipush (-5), 2) := by decide +kernel
theorem dX0_stepsToSame_47 : decode cX0_stepsToSame 47 = .ok (.ireturn, 1) := by decide +kernel
theorem dX0_findMove_0 : decode cX0_findMove 0 = .ok (.aload_n 0, 1) := by decide +kernel
theorem dX0_findMove_1 : decode cX0_findMove 1 = .ok (.getfield 24, 3) := by decide +kernel
theorem dX0_findMove_4 : decode cX0_findMove 4 = .ok (.aload_n 1, 1) := by decide +kernel
theorem dX0_findMove_5 : decode cX0_findMove 5 = .ok (.invokevirtual 42, 3) := by decide +kernel
theorem dX0_findMove_8 : decode cX0_findMove 8 = .ok (.iconst 2, 1) := by decide +kernel
theorem dX0_findMove_9 : decode cX0_findMove 9 = .ok (.istore_n 3, 1) := by decide +kernel
theorem dX0_findMove_10 : decode cX0_findMove 10 = .ok (.iload_n 3, 1) := by decide +kernel
theorem dX0_findMove_11 : decode cX0_findMove 11 = .ok (.bipush 64, 2) := by decide +kernel
theorem dX0_findMove_13 : decode cX0_findMove 13 = .ok (.if_icmp .gt 33, 3) := by decide +kernel
theorem dX0_findMove_16 : decode cX0_findMove 16 = .ok (.aload_n 0, 1) := by decide +kernel
theorem dX0_findMove_17 : decode cX0_findMove 17 = .ok (.getfield 24, 3) := by decide +kernel
theorem dX0_findMove_20 : decode cX0_findMove 20 = .ok (.iconst 2, 1) := by decide +kernel
theorem dX0_findMove_21 : decode cX0_findMove 21 = .ok (.aload_n 2, 1) := by decide +kernel
theorem dX0_findMove_22 : decode cX0_findMove 22 = .ok (.invokevirtual 46, 3) := by decide +kernel
theorem dX0_findMove_25 : decode cX0_findMove 25 = .ok (.aload_n 0, 1) := by decide +kernel
theorem dX0_findMove_26 : decode cX0_findMove 26 = .ok (.aload_n 1, 1) := by decide +kernel
theorem dX0_findMove_27 : decode cX0_findMove 27 = .ok (.invokevirtual 58, 3) := by decide +kernel
theorem dX0_findMove_30 : decode cX0_findMove 30 = .ok (.ifCond .eq 10, 3) := by decide +kernel
theorem dX0_findMove_33 : decode cX0_findMove 33 = .ok (.aload_n 0, 1) := by decide +kernel
theorem dX0_findMove_34 : decode cX0_findMove 34 = .ok (.iload_n 3, 1) := by decide +kernel
theorem dX0_findMove_35 : decode cX0_findMove 35 = .ok (.putfield 9, 3) := by decide +kernel
theorem dX0_findMove_38 : decode cX0_findMove 38 = .ok (.iconst 1, 1) := by decide +kernel
theorem dX0_findMove_39 : decode cX0_findMove 39 = .ok (.ireturn, 1) := by decide +kernel
theorem dX0_findMove_40 : decode cX0_findMove 40 = .ok (.iinc 3 2, 3) := by decide +kernel
theorem dX0_findMove_43 : decode cX0_findMove 43 = .ok (.goto (-33), 3) := by decide +kernel
theorem dX0_findMove_46 : decode cX0_findMove 46 = .ok (.iconst 0, 1) := by decide +kernel
theorem dX0_findMove_47 : decode cX0_findMove 47 = .ok (.ireturn, 1) := by decide +kernel
theorem dX0_isMoved_0 : decode cX0_isMoved 0 = .ok (.iconst 0, 1) := by decide +kernel
theorem dX0_isMoved_1 : decode cX0_isMoved 1 = .ok (.istore_n 2, 1) := by decide +kernel
theorem dX0_isMoved_2 : decode cX0_isMoved 2 = .ok (.iload_n 2, 1) := by decide +kernel
theorem dX0_isMoved_3 : decode cX0_isMoved 3 = .ok (.aload_n 1, 1) := by decide +kernel
theorem dX0_isMoved_4 : decode cX0_isMoved 4 = .ok (.getfield 61, 3) := by decide +kernel
theorem dX0_isMoved_7 : decode cX0_isMoved 7 = .ok (.if_icmp .ge 58, 3) := by decide +kernel
theorem dX0_isMoved_10 : decode cX0_isMoved 10 = .ok (.iload_n 2, 1) := by decide +kernel
theorem dX0_isMoved_11 : decode cX0_isMoved 11 = .ok (.ifCond .ne 7, 3) := by decide +kernel
theorem dX0_isMoved_14 : decode cX0_isMoved 14 = .ok (.iconst 2, 1) := by decide +kernel
theorem dX0_isMoved_15 : decode cX0_isMoved 15 = .ok (.goto 4, 3) := by decide +kernel
theorem dX0_isMoved_18 : decode cX0_isMoved 18 = .ok (.iconst 0, 1) := by decide +kernel
theorem dX0_isMoved_19 : decode cX0_isMoved 19 = .ok (.istore_n 3, 1) := by decide +kernel
theorem dX0_isMoved_20 : decode cX0_isMoved 20 = .ok (.iload_n 3, 1) := by decide +kernel
theorem dX0_isMoved_21 : decode cX0_isMoved 21 = .ok (.aload_n 1, 1) := by decide +kernel
theorem dX0_isMoved_22 : decode cX0_isMoved 22 = .ok (.getfield 64, 3) := by decide +kernel
theorem dX0_isMoved_25 : decode cX0_isMoved 25 = .ok (.if_icmp .ge 34, 3) := by decide +kernel
theorem dX0_isMoved_28 : decode cX0_isMoved 28 = .ok (.aload_n 0, 1) := by decide +kernel
theorem dX0_isMoved_29 : decode cX0_isMoved 29 = .ok (.getfield 24, 3) := by decide +kernel
theorem dX0_isMoved_32 : decode cX0_isMoved 32 = .ok (.aload_n 1, 1) := by decide +kernel
theorem dX0_isMoved_33 : decode cX0_isMoved 33 = .ok (.iload_n 3, 1) := by decide +kernel
theorem dX0_isMoved_34 : decode cX0_isMoved 34 = .ok (.iload_n 2, 1) := by decide +kernel
theorem dX0_isMoved_35 : decode cX0_isMoved 35 = .ok (.invokevirtual 67, 3) := by decide +kernel
theorem dX0_isMoved_38 : decode cX0_isMoved 38 = .ok (.ifCond .eq 15, 3) := by decide +kernel
theorem dX0_isMoved_41 : decode cX0_isMoved 41 = .ok (.aload_n 0, 1) := by decide +kernel
theorem dX0_isMoved_42 : decode cX0_isMoved 42 = .ok (.iload_n 3, 1) := by decide +kernel
theorem dX0_isMoved_43 : decode cX0_isMoved 43 = .ok (.putfield 15, 3) := by decide +kernel
theorem dX0_isMoved_46 : decode cX0_isMoved 46 = .ok (.aload_n 0, 1) := by decide +kernel
theorem dX0_isMoved_47 : decode cX0_isMoved 47 = .ok (.iload_n 2, 1) := by decide +kernel
theorem dX0_isMoved_48 : decode cX0_isMoved 48 = .ok (.putfield 18, 3) := by decide +kernel
theorem dX0_isMoved_51 : decode cX0_isMoved 51 = .ok (.iconst 1, 1) := by decide +kernel
theorem dX0_isMoved_52 : decode cX0_isMoved 52 = .ok (.ireturn, 1) := by decide +kernel
theorem dX0_isMoved_53 : decode cX0_isMoved 53 = .ok (.iinc 3 2, 3) := by decide +kernel
theorem dX0_isMoved_56 : decode cX0_isMoved 56 = .ok (.goto (-36), 3) := by decide +kernel
theorem dX0_isMoved_59 : decode cX0_isMoved 59 = .ok (.iinc 2 2, 3) := by decide +kernel
theorem dX0_isMoved_62 : decode cX0_isMoved 62 = .ok (.goto (-60), 3) := by decide +kernel
theorem dX0_isMoved_65 : decode cX0_isMoved 65 = .ok (.iconst 0, 1) := by decide +kernel
theorem dX0_isMoved_66 : decode cX0_isMoved 66 = .ok (.ireturn, 1) := by decide +kernel
theorem dX0_unlikeGrids_0 : decode cX0_unlikeGrids 0 = .ok (.aload_n 0, 1) := by decide +kernel
theorem dX0_unlikeGrids_1 : decode cX0_unlikeGrids 1 = .ok (.getfield 24, 3) := by decide +kernel
theorem dX0_unlikeGrids_4 : decode cX0_unlikeGrids 4 = .ok (.aload_n 1, 1) := by decide +kernel
theorem dX0_unlikeGrids_5 : decode cX0_unlikeGrids 5 = .ok (.invokevirtual 42, 3) := by decide +kernel
theorem dX0_unlikeGrids_8 : decode cX0_unlikeGrids 8 = .ok (.aload_n 0, 1) := by decide +kernel
theorem dX0_unlikeGrids_9 : decode cX0_unlikeGrids 9 = .ok (.iconst 0, 1) := by decide +kernel
theorem dX0_unlikeGrids_10 : decode cX0_unlikeGrids 10 = .ok (.putfield 39, 3) := by decide +kernel
theorem dX0_unlikeGrids_13 : decode cX0_unlikeGrids 13 = .ok (.aload_n 0, 1) := by decide +kernel
theorem dX0_unlikeGrids_14 : decode cX0_unlikeGrids 14 = .ok (.invokevirtual 71, 3) := by decide +kernel
theorem dX0_unlikeGrids_17 : decode cX0_unlikeGrids 17 = .ok (.iconst 0, 1) := by decide +kernel
theorem dX0_unlikeGrids_18 : decode cX0_unlikeGrids 18 = .ok (.istore 4, 2) := by decide +kernel
theorem dX0_unlikeGrids_20 : decode cX0_unlikeGrids 20 = .ok (.iload 4, 2) := by decide +kernel
theorem dX0_unlikeGrids_22 : decode cX0_unlikeGrids 22 = .ok (.iload_n 3, 1) := by decide +kernel
theorem dX0_unlikeGrids_23 : decode cX0_unlikeGrids 23 = .ok (.if_icmp .ge 22, 3) := by decide +kernel
theorem dX0_unlikeGrids_26 : decode cX0_unlikeGrids 26 = .ok (.aload_n 0, 1) := by decide +kernel
theorem dX0_unlikeGrids_27 : decode cX0_unlikeGrids 27 = .ok (.getfield 24, 3) := by decide +kernel
theorem dX0_unlikeGrids_30 : decode cX0_unlikeGrids 30 = .ok (.iconst 1, 1) := by decide +kernel
theorem dX0_unlikeGrids_31 : decode cX0_unlikeGrids 31 = .ok (.aload_n 2, 1) := by decide +kernel
theorem dX0_unlikeGrids_32 : decode cX0_unlikeGrids 32 = .ok (.invokevirtual 46, 3) := by decide +kernel
theorem dX0_unlikeGrids_35 : decode cX0_unlikeGrids 35 = .ok (.aload_n 0, 1) := by decide +kernel
theorem dX0_unlikeGrids_36 : decode cX0_unlikeGrids 36 = .ok (.invokevirtual 71, 3) := by decide +kernel
theorem dX0_unlikeGrids_39 : decode cX0_unlikeGrids 39 = .ok (.iinc 4 1, 3) := by decide +kernel
theorem dX0_unlikeGrids_42 : decode cX0_unlikeGrids 42 = .ok (.goto (-22), 3) := by decide +kernel
theorem dX0_unlikeGrids_45 : decode cX0_unlikeGrids 45 = .ok (.aload_n 0, 1) := by decide +kernel
theorem dX0_unlikeGrids_46 : decode cX0_unlikeGrids 46 = .ok (.getfield 39, 3) := by decide +kernel
theorem dX0_unlikeGrids_49 : decode cX0_unlikeGrids 49 = .ok (.ireturn, 1) := by decide +kernel
theorem dX0_keepIfUnlike_0 : decode cX0_keepIfUnlike 0 = .ok (.iconst 0, 1) := by decide +kernel
theorem dX0_keepIfUnlike_1 : decode cX0_keepIfUnlike 1 = .ok (.istore_n 1, 1) := by decide +kernel
theorem dX0_keepIfUnlike_2 : decode cX0_keepIfUnlike 2 = .ok (.iload_n 1, 1) := by decide +kernel
theorem dX0_keepIfUnlike_3 : decode cX0_keepIfUnlike 3 = .ok (.aload_n 0, 1) := by decide +kernel
theorem dX0_keepIfUnlike_4 : decode cX0_keepIfUnlike 4 = .ok (.getfield 39, 3) := by decide +kernel
theorem dX0_keepIfUnlike_7 : decode cX0_keepIfUnlike 7 = .ok (.if_icmp .ge 18, 3) := by decide +kernel
theorem dX0_keepIfUnlike_10 : decode cX0_keepIfUnlike 10 = .ok (.aload_n 0, 1) := by decide +kernel
theorem dX0_keepIfUnlike_11 : decode cX0_keepIfUnlike 11 = .ok (.iload_n 1, 1) := by decide +kernel
theorem dX0_keepIfUnlike_12 : decode cX0_keepIfUnlike 12 = .ok (.invokevirtual 74, 3) := by decide +kernel
theorem dX0_keepIfUnlike_15 : decode cX0_keepIfUnlike 15 = .ok (.ifCond .eq 4, 3) := by decide +kernel
theorem dX0_keepIfUnlike_18 : decode cX0_keepIfUnlike 18 = .ok (.return_, 1) := by decide +kernel
theorem dX0_keepIfUnlike_19 : decode cX0_keepIfUnlike 19 = .ok (.iinc 1 1, 3) := by decide +kernel
theorem dX0_keepIfUnlike_22 : decode cX0_keepIfUnlike 22 = .ok (.goto (-20), 3) := by decide +kernel
theorem dX0_keepIfUnlike_25 : decode cX0_keepIfUnlike 25 = .ok (.iconst 0, 1) := by decide +kernel
theorem dX0_keepIfUnlike_26 : decode cX0_keepIfUnlike 26 = .ok (.istore_n 1, 1) := by decide +kernel
theorem dX0_keepIfUnlike_27 : decode cX0_keepIfUnlike 27 = .ok (.iload_n 1, 1) := by decide +kernel
theorem dX0_keepIfUnlike_28 : decode cX0_keepIfUnlike 28 = .ok (.aload_n 0, 1) := by decide +kernel
theorem dX0_keepIfUnlike_29 : decode cX0_keepIfUnlike 29 = .ok (.getfield 24, 3) := by decide +kernel
theorem dX0_keepIfUnlike_32 : decode cX0_keepIfUnlike 32 = .ok (.getfield 61, 3) := by decide +kernel
theorem dX0_keepIfUnlike_35 : decode cX0_keepIfUnlike 35 = .ok (.if_icmp .ge 33, 3) := by decide +kernel
theorem dX0_keepIfUnlike_38 : decode cX0_keepIfUnlike 38 = .ok (.aload_n 0, 1) := by decide +kernel
theorem dX0_keepIfUnlike_39 : decode cX0_keepIfUnlike 39 = .ok (.getfield 35, 3) := by decide +kernel
theorem dX0_keepIfUnlike_42 : decode cX0_keepIfUnlike 42 = .ok (.aload_n 0, 1) := by decide +kernel
theorem dX0_keepIfUnlike_43 : decode cX0_keepIfUnlike 43 = .ok (.getfield 39, 3) := by decide +kernel
theorem dX0_keepIfUnlike_46 : decode cX0_keepIfUnlike 46 = .ok (.bipush 16, 2) := by decide +kernel
theorem dX0_keepIfUnlike_48 : decode cX0_keepIfUnlike 48 = .ok (.imul, 1) := by decide +kernel
theorem dX0_keepIfUnlike_49 : decode cX0_keepIfUnlike 49 = .ok (.iload_n 1, 1) := by decide +kernel
theorem dX0_keepIfUnlike_50 : decode cX0_keepIfUnlike 50 = .ok (.iadd, 1) := by decide +kernel
theorem dX0_keepIfUnlike_51 : decode cX0_keepIfUnlike 51 = .ok (.aload_n 0, 1) := by decide +kernel
theorem dX0_keepIfUnlike_52 : decode cX0_keepIfUnlike 52 = .ok (.getfield 24, 3) := by decide +kernel
theorem dX0_keepIfUnlike_55 : decode cX0_keepIfUnlike 55 = .ok (.iload_n 1, 1) := by decide +kernel
theorem dX0_keepIfUnlike_56 : decode cX0_keepIfUnlike 56 = .ok (.invokevirtual 78, 3) := by decide +kernel
theorem dX0_keepIfUnlike_59 : decode cX0_keepIfUnlike 59 = .ok (.invokestatic 82, 3) := by decide +kernel
theorem dX0_keepIfUnlike_62 : decode cX0_keepIfUnlike 62 = .ok (.iinc 1 1, 3) := by decide +kernel
theorem dX0_keepIfUnlike_65 : decode cX0_keepIfUnlike 65 = .ok (.goto (-38), 3) := by decide +kernel
theorem dX0_keepIfUnlike_68 : decode cX0_keepIfUnlike 68 = .ok (.aload_n 0, 1) := by decide +kernel
theorem dX0_keepIfUnlike_69 : decode cX0_keepIfUnlike 69 = .ok (.dup, 1) := by decide +kernel
theorem dX0_keepIfUnlike_70 : decode cX0_keepIfUnlike 70 = .ok (.getfield 39, 3) := by decide +kernel
theorem dX0_keepIfUnlike_73 : decode cX0_keepIfUnlike 73 = .ok (.iconst 1, 1) := by decide +kernel
theorem dX0_keepIfUnlike_74 : decode cX0_keepIfUnlike 74 = .ok (.iadd, 1) := by decide +kernel
theorem dX0_keepIfUnlike_75 : decode cX0_keepIfUnlike 75 = .ok (.putfield 39, 3) := by decide +kernel
theorem dX0_keepIfUnlike_78 : decode cX0_keepIfUnlike 78 = .ok (.return_, 1) := by decide +kernel
theorem dX0_isKeptAs_0 : decode cX0_isKeptAs 0 = .ok (.iconst 0, 1) := by decide +kernel
theorem dX0_isKeptAs_1 : decode cX0_isKeptAs 1 = .ok (.istore_n 2, 1) := by decide +kernel
theorem dX0_isKeptAs_2 : decode cX0_isKeptAs 2 = .ok (.iload_n 2, 1) := by decide +kernel
theorem dX0_isKeptAs_3 : decode cX0_isKeptAs 3 = .ok (.aload_n 0, 1) := by decide +kernel
theorem dX0_isKeptAs_4 : decode cX0_isKeptAs 4 = .ok (.getfield 24, 3) := by decide +kernel
theorem dX0_isKeptAs_7 : decode cX0_isKeptAs 7 = .ok (.getfield 61, 3) := by decide +kernel
theorem dX0_isKeptAs_10 : decode cX0_isKeptAs 10 = .ok (.if_icmp .ge 35, 3) := by decide +kernel
theorem dX0_isKeptAs_13 : decode cX0_isKeptAs 13 = .ok (.aload_n 0, 1) := by decide +kernel
theorem dX0_isKeptAs_14 : decode cX0_isKeptAs 14 = .ok (.getfield 35, 3) := by decide +kernel
theorem dX0_isKeptAs_17 : decode cX0_isKeptAs 17 = .ok (.iload_n 1, 1) := by decide +kernel
theorem dX0_isKeptAs_18 : decode cX0_isKeptAs 18 = .ok (.bipush 16, 2) := by decide +kernel
theorem dX0_isKeptAs_20 : decode cX0_isKeptAs 20 = .ok (.imul, 1) := by decide +kernel
theorem dX0_isKeptAs_21 : decode cX0_isKeptAs 21 = .ok (.iload_n 2, 1) := by decide +kernel
theorem dX0_isKeptAs_22 : decode cX0_isKeptAs 22 = .ok (.iadd, 1) := by decide +kernel
theorem dX0_isKeptAs_23 : decode cX0_isKeptAs 23 = .ok (.invokestatic 86, 3) := by decide +kernel
theorem dX0_isKeptAs_26 : decode cX0_isKeptAs 26 = .ok (.aload_n 0, 1) := by decide +kernel
theorem dX0_isKeptAs_27 : decode cX0_isKeptAs 27 = .ok (.getfield 24, 3) := by decide +kernel
theorem dX0_isKeptAs_30 : decode cX0_isKeptAs 30 = .ok (.iload_n 2, 1) := by decide +kernel
theorem dX0_isKeptAs_31 : decode cX0_isKeptAs 31 = .ok (.invokevirtual 78, 3) := by decide +kernel
theorem dX0_isKeptAs_34 : decode cX0_isKeptAs 34 = .ok (.if_icmp .eq 5, 3) := by decide +kernel
theorem dX0_isKeptAs_37 : decode cX0_isKeptAs 37 = .ok (.iconst 0, 1) := by decide +kernel
theorem dX0_isKeptAs_38 : decode cX0_isKeptAs 38 = .ok (.ireturn, 1) := by decide +kernel
theorem dX0_isKeptAs_39 : decode cX0_isKeptAs 39 = .ok (.iinc 2 1, 3) := by decide +kernel
theorem dX0_isKeptAs_42 : decode cX0_isKeptAs 42 = .ok (.goto (-40), 3) := by decide +kernel
theorem dX0_isKeptAs_45 : decode cX0_isKeptAs 45 = .ok (.iconst 1, 1) := by decide +kernel
theorem dX0_isKeptAs_46 : decode cX0_isKeptAs 46 = .ok (.ireturn, 1) := by decide +kernel
theorem dX0_isSeenBy_0 : decode cX0_isSeenBy 0 = .ok (.aload_n 0, 1) := by decide +kernel
theorem dX0_isSeenBy_1 : decode cX0_isSeenBy 1 = .ok (.getfield 31, 3) := by decide +kernel
theorem dX0_isSeenBy_4 : decode cX0_isSeenBy 4 = .ok (.iload_n 1, 1) := by decide +kernel
theorem dX0_isSeenBy_5 : decode cX0_isSeenBy 5 = .ok (.invokevirtual 90, 3) := by decide +kernel
theorem dX0_isSeenBy_8 : decode cX0_isSeenBy 8 = .ok (.pop, 1) := by decide +kernel
theorem dX0_isSeenBy_9 : decode cX0_isSeenBy 9 = .ok (.iconst 0, 1) := by decide +kernel
theorem dX0_isSeenBy_10 : decode cX0_isSeenBy 10 = .ok (.istore_n 3, 1) := by decide +kernel
theorem dX0_isSeenBy_11 : decode cX0_isSeenBy 11 = .ok (.iload_n 3, 1) := by decide +kernel
theorem dX0_isSeenBy_12 : decode cX0_isSeenBy 12 = .ok (.aload_n 2, 1) := by decide +kernel
theorem dX0_isSeenBy_13 : decode cX0_isSeenBy 13 = .ok (.getfield 93, 3) := by decide +kernel
theorem dX0_isSeenBy_16 : decode cX0_isSeenBy 16 = .ok (.getfield 99, 3) := by decide +kernel
theorem dX0_isSeenBy_19 : decode cX0_isSeenBy 19 = .ok (.if_icmp .ge 76, 3) := by decide +kernel
theorem dX0_isSeenBy_22 : decode cX0_isSeenBy 22 = .ok (.aload_n 2, 1) := by decide +kernel
theorem dX0_isSeenBy_23 : decode cX0_isSeenBy 23 = .ok (.getfield 93, 3) := by decide +kernel
theorem dX0_isSeenBy_26 : decode cX0_isSeenBy 26 = .ok (.iload_n 3, 1) := by decide +kernel
theorem dX0_isSeenBy_27 : decode cX0_isSeenBy 27 = .ok (.invokevirtual 104, 3) := by decide +kernel
theorem dX0_isSeenBy_30 : decode cX0_isSeenBy 30 = .ok (.istore 4, 2) := by decide +kernel
theorem dX0_isSeenBy_32 : decode cX0_isSeenBy 32 = .ok (.aload_n 2, 1) := by decide +kernel
theorem dX0_isSeenBy_33 : decode cX0_isSeenBy 33 = .ok (.getfield 107, 3) := by decide +kernel
theorem dX0_isSeenBy_36 : decode cX0_isSeenBy 36 = .ok (.iload 4, 2) := by decide +kernel
theorem dX0_isSeenBy_38 : decode cX0_isSeenBy 38 = .ok (.bipush 100, 2) := by decide +kernel
theorem dX0_isSeenBy_40 : decode cX0_isSeenBy 40 = .ok (.idiv, 1) := by decide +kernel
theorem dX0_isSeenBy_41 : decode cX0_isSeenBy 41 = .ok (.iload 4, 2) := by decide +kernel
theorem dX0_isSeenBy_43 : decode cX0_isSeenBy 43 = .ok (.bipush 100, 2) := by decide +kernel
theorem dX0_isSeenBy_45 : decode cX0_isSeenBy 45 = .ok (.irem, 1) := by decide +kernel
theorem dX0_isSeenBy_46 : decode cX0_isSeenBy 46 = .ok (.invokevirtual 108, 3) := by decide +kernel
theorem dX0_isSeenBy_49 : decode cX0_isSeenBy 49 = .ok (.ifCond .ne 5, 3) := by decide +kernel
theorem dX0_isSeenBy_52 : decode cX0_isSeenBy 52 = .ok (.iconst 0, 1) := by decide +kernel
theorem dX0_isSeenBy_53 : decode cX0_isSeenBy 53 = .ok (.ireturn, 1) := by decide +kernel
theorem dX0_isSeenBy_54 : decode cX0_isSeenBy 54 = .ok (.aload_n 0, 1) := by decide +kernel
theorem dX0_isSeenBy_55 : decode cX0_isSeenBy 55 = .ok (.aload_n 2, 1) := by decide +kernel
theorem dX0_isSeenBy_56 : decode cX0_isSeenBy 56 = .ok (.getfield 107, 3) := by decide +kernel
theorem dX0_isSeenBy_59 : decode cX0_isSeenBy 59 = .ok (.aload_n 0, 1) := by decide +kernel
theorem dX0_isSeenBy_60 : decode cX0_isSeenBy 60 = .ok (.getfield 31, 3) := by decide +kernel
theorem dX0_isSeenBy_63 : decode cX0_isSeenBy 63 = .ok (.iload 4, 2) := by decide +kernel
theorem dX0_isSeenBy_65 : decode cX0_isSeenBy 65 = .ok (.aload_n 2, 1) := by decide +kernel
theorem dX0_isSeenBy_66 : decode cX0_isSeenBy 66 = .ok (.getfield 93, 3) := by decide +kernel
theorem dX0_isSeenBy_69 : decode cX0_isSeenBy 69 = .ok (.iload_n 3, 1) := by decide +kernel
theorem dX0_isSeenBy_70 : decode cX0_isSeenBy 70 = .ok (.invokevirtual 112, 3) := by decide +kernel
theorem dX0_isSeenBy_73 : decode cX0_isSeenBy 73 = .ok (.invokevirtual 115, 3) := by decide +kernel
theorem dX0_isSeenBy_76 : decode cX0_isSeenBy 76 = .ok (.aload_n 2, 1) := by decide +kernel
theorem dX0_isSeenBy_77 : decode cX0_isSeenBy 77 = .ok (.getfield 93, 3) := by decide +kernel
theorem dX0_isSeenBy_80 : decode cX0_isSeenBy 80 = .ok (.iload_n 3, 1) := by decide +kernel
theorem dX0_isSeenBy_81 : decode cX0_isSeenBy 81 = .ok (.invokevirtual 119, 3) := by decide +kernel
theorem dX0_isSeenBy_84 : decode cX0_isSeenBy 84 = .ok (.if_icmp .eq 5, 3) := by decide +kernel
theorem dX0_isSeenBy_87 : decode cX0_isSeenBy 87 = .ok (.iconst 0, 1) := by decide +kernel
theorem dX0_isSeenBy_88 : decode cX0_isSeenBy 88 = .ok (.ireturn, 1) := by decide +kernel
theorem dX0_isSeenBy_89 : decode cX0_isSeenBy 89 = .ok (.iinc 3 1, 3) := by decide +kernel
theorem dX0_isSeenBy_92 : decode cX0_isSeenBy 92 = .ok (.goto (-81), 3) := by decide +kernel
theorem dX0_isSeenBy_95 : decode cX0_isSeenBy 95 = .ok (.iconst 1, 1) := by decide +kernel
theorem dX0_isSeenBy_96 : decode cX0_isSeenBy 96 = .ok (.ireturn, 1) := by decide +kernel
theorem dX0_behindEvents_0 : decode cX0_behindEvents 0 = .ok (.aload_n 0, 1) := by decide +kernel
theorem dX0_behindEvents_1 : decode cX0_behindEvents 1 = .ok (.getfield 24, 3) := by decide +kernel
theorem dX0_behindEvents_4 : decode cX0_behindEvents 4 = .ok (.aload_n 1, 1) := by decide +kernel
theorem dX0_behindEvents_5 : decode cX0_behindEvents 5 = .ok (.getfield 107, 3) := by decide +kernel
theorem dX0_behindEvents_8 : decode cX0_behindEvents 8 = .ok (.invokevirtual 42, 3) := by decide +kernel
theorem dX0_behindEvents_11 : decode cX0_behindEvents 11 = .ok (.aload_n 0, 1) := by decide +kernel
theorem dX0_behindEvents_12 : decode cX0_behindEvents 12 = .ok (.getfield 31, 3) := by decide +kernel
theorem dX0_behindEvents_15 : decode cX0_behindEvents 15 = .ok (.aload_n 1, 1) := by decide +kernel
theorem dX0_behindEvents_16 : decode cX0_behindEvents 16 = .ok (.getfield 122, 3) := by decide +kernel
theorem dX0_behindEvents_19 : decode cX0_behindEvents 19 = .ok (.invokevirtual 123, 3) := by decide +kernel
theorem dX0_behindEvents_22 : decode cX0_behindEvents 22 = .ok (.iconst 0, 1) := by decide +kernel
theorem dX0_behindEvents_23 : decode cX0_behindEvents 23 = .ok (.istore_n 2, 1) := by decide +kernel
theorem dX0_behindEvents_24 : decode cX0_behindEvents 24 = .ok (.iload_n 2, 1) := by decide +kernel
theorem dX0_behindEvents_25 : decode cX0_behindEvents 25 = .ok (.aload_n 1, 1) := by decide +kernel
theorem dX0_behindEvents_26 : decode cX0_behindEvents 26 = .ok (.getfield 126, 3) := by decide +kernel
theorem dX0_behindEvents_29 : decode cX0_behindEvents 29 = .ok (.getfield 99, 3) := by decide +kernel
theorem dX0_behindEvents_32 : decode cX0_behindEvents 32 = .ok (.if_icmp .ge 29, 3) := by decide +kernel
theorem dX0_behindEvents_35 : decode cX0_behindEvents 35 = .ok (.aload_n 0, 1) := by decide +kernel
theorem dX0_behindEvents_36 : decode cX0_behindEvents 36 = .ok (.aload_n 1, 1) := by decide +kernel
theorem dX0_behindEvents_37 : decode cX0_behindEvents 37 = .ok (.getfield 126, 3) := by decide +kernel
theorem dX0_behindEvents_40 : decode cX0_behindEvents 40 = .ok (.iload_n 2, 1) := by decide +kernel
theorem dX0_behindEvents_41 : decode cX0_behindEvents 41 = .ok (.invokevirtual 112, 3) := by decide +kernel
theorem dX0_behindEvents_44 : decode cX0_behindEvents 44 = .ok (.aload_n 1, 1) := by decide +kernel
theorem dX0_behindEvents_45 : decode cX0_behindEvents 45 = .ok (.getfield 126, 3) := by decide +kernel
theorem dX0_behindEvents_48 : decode cX0_behindEvents 48 = .ok (.iload_n 2, 1) := by decide +kernel
theorem dX0_behindEvents_49 : decode cX0_behindEvents 49 = .ok (.invokevirtual 104, 3) := by decide +kernel
theorem dX0_behindEvents_52 : decode cX0_behindEvents 52 = .ok (.invokevirtual 129, 3) := by decide +kernel
theorem dX0_behindEvents_55 : decode cX0_behindEvents 55 = .ok (.iinc 2 1, 3) := by decide +kernel
theorem dX0_behindEvents_58 : decode cX0_behindEvents 58 = .ok (.goto (-34), 3) := by decide +kernel
theorem dX0_behindEvents_61 : decode cX0_behindEvents 61 = .ok (.aload_n 0, 1) := by decide +kernel
theorem dX0_behindEvents_62 : decode cX0_behindEvents 62 = .ok (.getfield 24, 3) := by decide +kernel
theorem dX0_behindEvents_65 : decode cX0_behindEvents 65 = .ok (.areturn, 1) := by decide +kernel
theorem dX0_happen_0 : decode cX0_happen 0 = .ok (.iload_n 1, 1) := by decide +kernel
theorem dX0_happen_1 : decode cX0_happen 1 = .ok (.lookupswitch 54 #[(0, 27), (1, 39)], 27) := by decide +kernel
theorem dX0_happen_28 : decode cX0_happen 28 = .ok (.aload_n 0, 1) := by decide +kernel
theorem dX0_happen_29 : decode cX0_happen 29 = .ok (.getfield 31, 3) := by decide +kernel
theorem dX0_happen_32 : decode cX0_happen 32 = .ok (.iload_n 2, 1) := by decide +kernel
theorem dX0_happen_33 : decode cX0_happen 33 = .ok (.invokevirtual 90, 3) := by decide +kernel
theorem dX0_happen_36 : decode cX0_happen 36 = .ok (.pop, 1) := by decide +kernel
theorem dX0_happen_37 : decode cX0_happen 37 = .ok (.goto 33, 3) := by decide +kernel
theorem dX0_happen_40 : decode cX0_happen 40 = .ok (.aload_n 0, 1) := by decide +kernel
theorem dX0_happen_41 : decode cX0_happen 41 = .ok (.getfield 24, 3) := by decide +kernel
theorem dX0_happen_44 : decode cX0_happen 44 = .ok (.iload_n 2, 1) := by decide +kernel
theorem dX0_happen_45 : decode cX0_happen 45 = .ok (.aload_n 0, 1) := by decide +kernel
theorem dX0_happen_46 : decode cX0_happen 46 = .ok (.getfield 31, 3) := by decide +kernel
theorem dX0_happen_49 : decode cX0_happen 49 = .ok (.invokevirtual 46, 3) := by decide +kernel
theorem dX0_happen_52 : decode cX0_happen 52 = .ok (.goto 18, 3) := by decide +kernel
theorem dX0_happen_55 : decode cX0_happen 55 = .ok (.aload_n 0, 1) := by decide +kernel
theorem dX0_happen_56 : decode cX0_happen 56 = .ok (.getfield 24, 3) := by decide +kernel
theorem dX0_happen_59 : decode cX0_happen 59 = .ok (.iload_n 2, 1) := by decide +kernel
theorem dX0_happen_60 : decode cX0_happen 60 = .ok (.bipush 100, 2) := by decide +kernel
theorem dX0_happen_62 : decode cX0_happen 62 = .ok (.idiv, 1) := by decide +kernel
theorem dX0_happen_63 : decode cX0_happen 63 = .ok (.iload_n 2, 1) := by decide +kernel
theorem dX0_happen_64 : decode cX0_happen 64 = .ok (.bipush 100, 2) := by decide +kernel
theorem dX0_happen_66 : decode cX0_happen 66 = .ok (.irem, 1) := by decide +kernel
theorem dX0_happen_67 : decode cX0_happen 67 = .ok (.invokevirtual 133, 3) := by decide +kernel
theorem dX0_happen_70 : decode cX0_happen 70 = .ok (.return_, 1) := by decide +kernel
theorem dX1_init_0 : decode cX1_init 0 = .ok (.aload_n 0, 1) := by decide +kernel
theorem dX1_init_1 : decode cX1_init 1 = .ok (.invokespecial 3, 3) := by decide +kernel
theorem dX1_init_4 : decode cX1_init 4 = .ok (.aload_n 0, 1) := by decide +kernel
theorem dX1_init_5 : decode cX1_init 5 = .ok (.bipush 8, 2) := by decide +kernel
theorem dX1_init_7 : decode cX1_init 7 = .ok (.putfield 9, 3) := by decide +kernel
theorem dX1_init_10 : decode cX1_init 10 = .ok (.aload_n 0, 1) := by decide +kernel
theorem dX1_init_11 : decode cX1_init 11 = .ok (.bipush 8, 2) := by decide +kernel
theorem dX1_init_13 : decode cX1_init 13 = .ok (.putfield 15, 3) := by decide +kernel
theorem dX1_init_16 : decode cX1_init 16 = .ok (.aload_n 0, 1) := by decide +kernel
theorem dX1_init_17 : decode cX1_init 17 = .ok (.iconst 0, 1) := by decide +kernel
theorem dX1_init_18 : decode cX1_init 18 = .ok (.putfield 18, 3) := by decide +kernel
theorem dX1_init_21 : decode cX1_init 21 = .ok (.aload_n 0, 1) := by decide +kernel
theorem dX1_init_22 : decode cX1_init 22 = .ok (.bipush 16, 2) := by decide +kernel
theorem dX1_init_24 : decode cX1_init 24 = .ok (.newarray .int, 2) := by decide +kernel
theorem dX1_init_26 : decode cX1_init 26 = .ok (.putfield 21, 3) := by decide +kernel
theorem dX1_init_29 : decode cX1_init 29 = .ok (.return_, 1) := by decide +kernel
theorem dX1_has_0 : decode cX1_has 0 = .ok (.iload_n 1, 1) := by decide +kernel
theorem dX1_has_1 : decode cX1_has 1 = .ok (.ifCond .lt 27, 3) := by decide +kernel
theorem dX1_has_4 : decode cX1_has 4 = .ok (.iload_n 1, 1) := by decide +kernel
theorem dX1_has_5 : decode cX1_has 5 = .ok (.aload_n 0, 1) := by decide +kernel
theorem dX1_has_6 : decode cX1_has 6 = .ok (.getfield 9, 3) := by decide +kernel
theorem dX1_has_9 : decode cX1_has 9 = .ok (.if_icmp .ge 19, 3) := by decide +kernel
theorem dX1_has_12 : decode cX1_has 12 = .ok (.iload_n 2, 1) := by decide +kernel
theorem dX1_has_13 : decode cX1_has 13 = .ok (.ifCond .lt 15, 3) := by decide +kernel
theorem dX1_has_16 : decode cX1_has 16 = .ok (.iload_n 2, 1) := by decide +kernel
theorem dX1_has_17 : decode cX1_has 17 = .ok (.aload_n 0, 1) := by decide +kernel
theorem dX1_has_18 : decode cX1_has 18 = .ok (.getfield 15, 3) := by decide +kernel
theorem dX1_has_21 : decode cX1_has 21 = .ok (.if_icmp .ge 7, 3) := by decide +kernel
theorem dX1_has_24 : decode cX1_has 24 = .ok (.iconst 1, 1) := by decide +kernel
theorem dX1_has_25 : decode cX1_has 25 = .ok (.goto 4, 3) := by decide +kernel
theorem dX1_has_28 : decode cX1_has 28 = .ok (.iconst 0, 1) := by decide +kernel
theorem dX1_has_29 : decode cX1_has 29 = .ok (.ireturn, 1) := by decide +kernel
theorem dX1_rowAt_0 : decode cX1_rowAt 0 = .ok (.aload_n 0, 1) := by decide +kernel
theorem dX1_rowAt_1 : decode cX1_rowAt 1 = .ok (.getfield 21, 3) := by decide +kernel
theorem dX1_rowAt_4 : decode cX1_rowAt 4 = .ok (.iload_n 1, 1) := by decide +kernel
theorem dX1_rowAt_5 : decode cX1_rowAt 5 = .ok (.invokestatic 25, 3) := by decide +kernel
theorem dX1_rowAt_8 : decode cX1_rowAt 8 = .ok (.ireturn, 1) := by decide +kernel
theorem dX1_putRow_0 : decode cX1_putRow 0 = .ok (.aload_n 0, 1) := by decide +kernel
theorem dX1_putRow_1 : decode cX1_putRow 1 = .ok (.getfield 21, 3) := by decide +kernel
theorem dX1_putRow_4 : decode cX1_putRow 4 = .ok (.iload_n 1, 1) := by decide +kernel
theorem dX1_putRow_5 : decode cX1_putRow 5 = .ok (.iload_n 2, 1) := by decide +kernel
theorem dX1_putRow_6 : decode cX1_putRow 6 = .ok (.iconst 1, 1) := by decide +kernel
theorem dX1_putRow_7 : decode cX1_putRow 7 = .ok (.aload_n 0, 1) := by decide +kernel
theorem dX1_putRow_8 : decode cX1_putRow 8 = .ok (.getfield 9, 3) := by decide +kernel
theorem dX1_putRow_11 : decode cX1_putRow 11 = .ok (.ishl, 1) := by decide +kernel
theorem dX1_putRow_12 : decode cX1_putRow 12 = .ok (.iconst 1, 1) := by decide +kernel
theorem dX1_putRow_13 : decode cX1_putRow 13 = .ok (.isub, 1) := by decide +kernel
theorem dX1_putRow_14 : decode cX1_putRow 14 = .ok (.iand, 1) := by decide +kernel
theorem dX1_putRow_15 : decode cX1_putRow 15 = .ok (.invokestatic 29, 3) := by decide +kernel
theorem dX1_putRow_18 : decode cX1_putRow 18 = .ok (.return_, 1) := by decide +kernel
theorem dX1_cellAt_0 : decode cX1_cellAt 0 = .ok (.aload_n 0, 1) := by decide +kernel
theorem dX1_cellAt_1 : decode cX1_cellAt 1 = .ok (.iload_n 1, 1) := by decide +kernel
theorem dX1_cellAt_2 : decode cX1_cellAt 2 = .ok (.iload_n 2, 1) := by decide +kernel
theorem dX1_cellAt_3 : decode cX1_cellAt 3 = .ok (.invokevirtual 33, 3) := by decide +kernel
theorem dX1_cellAt_6 : decode cX1_cellAt 6 = .ok (.ifCond .eq 18, 3) := by decide +kernel
theorem dX1_cellAt_9 : decode cX1_cellAt 9 = .ok (.aload_n 0, 1) := by decide +kernel
theorem dX1_cellAt_10 : decode cX1_cellAt 10 = .ok (.getfield 21, 3) := by decide +kernel
theorem dX1_cellAt_13 : decode cX1_cellAt 13 = .ok (.iload_n 2, 1) := by decide +kernel
theorem dX1_cellAt_14 : decode cX1_cellAt 14 = .ok (.invokestatic 25, 3) := by decide +kernel
theorem dX1_cellAt_17 : decode cX1_cellAt 17 = .ok (.iload_n 1, 1) := by decide +kernel
theorem dX1_cellAt_18 : decode cX1_cellAt 18 = .ok (.ishr, 1) := by decide +kernel
theorem dX1_cellAt_19 : decode cX1_cellAt 19 = .ok (.iconst 1, 1) := by decide +kernel
theorem dX1_cellAt_20 : decode cX1_cellAt 20 = .ok (.iand, 1) := by decide +kernel
theorem dX1_cellAt_21 : decode cX1_cellAt 21 = .ok (.goto 4, 3) := by decide +kernel
theorem dX1_cellAt_24 : decode cX1_cellAt 24 = .ok (.iconst 0, 1) := by decide +kernel
theorem dX1_cellAt_25 : decode cX1_cellAt 25 = .ok (.ireturn, 1) := by decide +kernel
theorem dX1_flip_0 : decode cX1_flip 0 = .ok (.aload_n 0, 1) := by decide +kernel
theorem dX1_flip_1 : decode cX1_flip 1 = .ok (.iload_n 1, 1) := by decide +kernel
theorem dX1_flip_2 : decode cX1_flip 2 = .ok (.iload_n 2, 1) := by decide +kernel
theorem dX1_flip_3 : decode cX1_flip 3 = .ok (.invokevirtual 33, 3) := by decide +kernel
theorem dX1_flip_6 : decode cX1_flip 6 = .ok (.ifCond .eq 23, 3) := by decide +kernel
theorem dX1_flip_9 : decode cX1_flip 9 = .ok (.aload_n 0, 1) := by decide +kernel
theorem dX1_flip_10 : decode cX1_flip 10 = .ok (.getfield 21, 3) := by decide +kernel
theorem dX1_flip_13 : decode cX1_flip 13 = .ok (.iload_n 2, 1) := by decide +kernel
theorem dX1_flip_14 : decode cX1_flip 14 = .ok (.aload_n 0, 1) := by decide +kernel
theorem dX1_flip_15 : decode cX1_flip 15 = .ok (.getfield 21, 3) := by decide +kernel
theorem dX1_flip_18 : decode cX1_flip 18 = .ok (.iload_n 2, 1) := by decide +kernel
theorem dX1_flip_19 : decode cX1_flip 19 = .ok (.invokestatic 25, 3) := by decide +kernel
theorem dX1_flip_22 : decode cX1_flip 22 = .ok (.iconst 1, 1) := by decide +kernel
theorem dX1_flip_23 : decode cX1_flip 23 = .ok (.iload_n 1, 1) := by decide +kernel
theorem dX1_flip_24 : decode cX1_flip 24 = .ok (.ishl, 1) := by decide +kernel
theorem dX1_flip_25 : decode cX1_flip 25 = .ok (.ixor, 1) := by decide +kernel
theorem dX1_flip_26 : decode cX1_flip 26 = .ok (.invokestatic 29, 3) := by decide +kernel
theorem dX1_flip_29 : decode cX1_flip 29 = .ok (.return_, 1) := by decide +kernel
theorem dX1_phase_0 : decode cX1_phase 0 = .ok (.aload_n 0, 1) := by decide +kernel
theorem dX1_phase_1 : decode cX1_phase 1 = .ok (.getfield 18, 3) := by decide +kernel
theorem dX1_phase_4 : decode cX1_phase 4 = .ok (.iconst 1, 1) := by decide +kernel
theorem dX1_phase_5 : decode cX1_phase 5 = .ok (.iand, 1) := by decide +kernel
theorem dX1_phase_6 : decode cX1_phase 6 = .ok (.ireturn, 1) := by decide +kernel
theorem dX1_ones_0 : decode cX1_ones 0 = .ok (.iconst 0, 1) := by decide +kernel
theorem dX1_ones_1 : decode cX1_ones 1 = .ok (.istore_n 1, 1) := by decide +kernel
theorem dX1_ones_2 : decode cX1_ones 2 = .ok (.iconst 0, 1) := by decide +kernel
theorem dX1_ones_3 : decode cX1_ones 3 = .ok (.istore_n 2, 1) := by decide +kernel
theorem dX1_ones_4 : decode cX1_ones 4 = .ok (.iload_n 2, 1) := by decide +kernel
theorem dX1_ones_5 : decode cX1_ones 5 = .ok (.aload_n 0, 1) := by decide +kernel
theorem dX1_ones_6 : decode cX1_ones 6 = .ok (.getfield 15, 3) := by decide +kernel
theorem dX1_ones_9 : decode cX1_ones 9 = .ok (.if_icmp .ge 23, 3) := by decide +kernel
theorem dX1_ones_12 : decode cX1_ones 12 = .ok (.iload_n 1, 1) := by decide +kernel
theorem dX1_ones_13 : decode cX1_ones 13 = .ok (.aload_n 0, 1) := by decide +kernel
theorem dX1_ones_14 : decode cX1_ones 14 = .ok (.getfield 21, 3) := by decide +kernel
theorem dX1_ones_17 : decode cX1_ones 17 = .ok (.iload_n 2, 1) := by decide +kernel
theorem dX1_ones_18 : decode cX1_ones 18 = .ok (.invokestatic 25, 3) := by decide +kernel
theorem dX1_ones_21 : decode cX1_ones 21 = .ok (.invokestatic 37, 3) := by decide +kernel
theorem dX1_ones_24 : decode cX1_ones 24 = .ok (.iadd, 1) := by decide +kernel
theorem dX1_ones_25 : decode cX1_ones 25 = .ok (.istore_n 1, 1) := by decide +kernel
theorem dX1_ones_26 : decode cX1_ones 26 = .ok (.iinc 2 1, 3) := by decide +kernel
theorem dX1_ones_29 : decode cX1_ones 29 = .ok (.goto (-25), 3) := by decide +kernel
theorem dX1_ones_32 : decode cX1_ones 32 = .ok (.iload_n 1, 1) := by decide +kernel
theorem dX1_ones_33 : decode cX1_ones 33 = .ok (.ireturn, 1) := by decide +kernel
theorem dX1_weighed_0 : decode cX1_weighed 0 = .ok (.iconst 0, 1) := by decide +kernel
theorem dX1_weighed_1 : decode cX1_weighed 1 = .ok (.istore 5, 2) := by decide +kernel
theorem dX1_weighed_3 : decode cX1_weighed 3 = .ok (.iconst 0, 1) := by decide +kernel
theorem dX1_weighed_4 : decode cX1_weighed 4 = .ok (.istore 6, 2) := by decide +kernel
theorem dX1_weighed_6 : decode cX1_weighed 6 = .ok (.iload 6, 2) := by decide +kernel
theorem dX1_weighed_8 : decode cX1_weighed 8 = .ok (.aload_n 0, 1) := by decide +kernel
theorem dX1_weighed_9 : decode cX1_weighed 9 = .ok (.getfield 15, 3) := by decide +kernel
theorem dX1_weighed_12 : decode cX1_weighed 12 = .ok (.if_icmp .ge 78, 3) := by decide +kernel
theorem dX1_weighed_15 : decode cX1_weighed 15 = .ok (.aload_n 0, 1) := by decide +kernel
theorem dX1_weighed_16 : decode cX1_weighed 16 = .ok (.getfield 21, 3) := by decide +kernel
theorem dX1_weighed_19 : decode cX1_weighed 19 = .ok (.iload 6, 2) := by decide +kernel
theorem dX1_weighed_21 : decode cX1_weighed 21 = .ok (.invokestatic 25, 3) := by decide +kernel
theorem dX1_weighed_24 : decode cX1_weighed 24 = .ok (.sipush 21845, 3) := by decide +kernel
theorem dX1_weighed_27 : decode cX1_weighed 27 = .ok (.iand, 1) := by decide +kernel
theorem dX1_weighed_28 : decode cX1_weighed 28 = .ok (.invokestatic 37, 3) := by decide +kernel
theorem dX1_weighed_31 : decode cX1_weighed 31 = .ok (.istore 7, 2) := by decide +kernel
theorem dX1_weighed_33 : decode cX1_weighed 33 = .ok (.aload_n 0, 1) := by decide +kernel
theorem dX1_weighed_34 : decode cX1_weighed 34 = .ok (.getfield 21, 3) := by decide +kernel
theorem dX1_weighed_37 : decode cX1_weighed 37 = .ok (.iload 6, 2) := by decide +kernel
theorem dX1_weighed_39 : decode cX1_weighed 39 = .ok (.invokestatic 25, 3) := by decide +kernel
theorem dX1_weighed_42 : decode cX1_weighed 42 = .ok (.ldc 43, 2) := by decide +kernel
theorem dX1_weighed_44 : decode cX1_weighed 44 = .ok (.iand, 1) := by decide +kernel
theorem dX1_weighed_45 : decode cX1_weighed 45 = .ok (.invokestatic 37, 3) := by decide +kernel
theorem dX1_weighed_48 : decode cX1_weighed 48 = .ok (.istore 8, 2) := by decide +kernel
theorem dX1_weighed_50 : decode cX1_weighed 50 = .ok (.iload 5, 2) := by decide +kernel
theorem dX1_weighed_52 : decode cX1_weighed 52 = .ok (.iload 6, 2) := by decide +kernel
theorem dX1_weighed_54 : decode cX1_weighed 54 = .ok (.iconst 1, 1) := by decide +kernel
theorem dX1_weighed_55 : decode cX1_weighed 55 = .ok (.iand, 1) := by decide +kernel
theorem dX1_weighed_56 : decode cX1_weighed 56 = .ok (.ifCond .ne 15, 3) := by decide +kernel
theorem dX1_weighed_59 : decode cX1_weighed 59 = .ok (.iload_n 1, 1) := by decide +kernel
theorem dX1_weighed_60 : decode cX1_weighed 60 = .ok (.iload 7, 2) := by decide +kernel
theorem dX1_weighed_62 : decode cX1_weighed 62 = .ok (.imul, 1) := by decide +kernel
theorem dX1_weighed_63 : decode cX1_weighed 63 = .ok (.iload_n 2, 1) := by decide +kernel
theorem dX1_weighed_64 : decode cX1_weighed 64 = .ok (.iload 8, 2) := by decide +kernel
theorem dX1_weighed_66 : decode cX1_weighed 66 = .ok (.imul, 1) := by decide +kernel
theorem dX1_weighed_67 : decode cX1_weighed 67 = .ok (.iadd, 1) := by decide +kernel
theorem dX1_weighed_68 : decode cX1_weighed 68 = .ok (.goto 13, 3) := by decide +kernel
theorem dX1_weighed_71 : decode cX1_weighed 71 = .ok (.iload_n 3, 1) := by decide +kernel
theorem dX1_weighed_72 : decode cX1_weighed 72 = .ok (.iload 7, 2) := by decide +kernel
theorem dX1_weighed_74 : decode cX1_weighed 74 = .ok (.imul, 1) := by decide +kernel
theorem dX1_weighed_75 : decode cX1_weighed 75 = .ok (.iload 4, 2) := by decide +kernel
theorem dX1_weighed_77 : decode cX1_weighed 77 = .ok (.iload 8, 2) := by decide +kernel
theorem dX1_weighed_79 : decode cX1_weighed 79 = .ok (.imul, 1) := by decide +kernel
theorem dX1_weighed_80 : decode cX1_weighed 80 = .ok (.iadd, 1) := by decide +kernel
theorem dX1_weighed_81 : decode cX1_weighed 81 = .ok (.iadd, 1) := by decide +kernel
theorem dX1_weighed_82 : decode cX1_weighed 82 = .ok (.istore 5, 2) := by decide +kernel
theorem dX1_weighed_84 : decode cX1_weighed 84 = .ok (.iinc 6 1, 3) := by decide +kernel
theorem dX1_weighed_87 : decode cX1_weighed 87 = .ok (.goto (-81), 3) := by decide +kernel
theorem dX1_weighed_90 : decode cX1_weighed 90 = .ok (.iload 5, 2) := by decide +kernel
theorem dX1_weighed_92 : decode cX1_weighed 92 = .ok (.ireturn, 1) := by decide +kernel
theorem dX1_becomeEmpty_0 : decode cX1_becomeEmpty 0 = .ok (.aload_n 0, 1) := by decide +kernel
theorem dX1_becomeEmpty_1 : decode cX1_becomeEmpty 1 = .ok (.iload_n 1, 1) := by decide +kernel
theorem dX1_becomeEmpty_2 : decode cX1_becomeEmpty 2 = .ok (.putfield 9, 3) := by decide +kernel
theorem dX1_becomeEmpty_5 : decode cX1_becomeEmpty 5 = .ok (.aload_n 0, 1) := by decide +kernel
theorem dX1_becomeEmpty_6 : decode cX1_becomeEmpty 6 = .ok (.iload_n 2, 1) := by decide +kernel
theorem dX1_becomeEmpty_7 : decode cX1_becomeEmpty 7 = .ok (.putfield 15, 3) := by decide +kernel
theorem dX1_becomeEmpty_10 : decode cX1_becomeEmpty 10 = .ok (.iconst 0, 1) := by decide +kernel
theorem dX1_becomeEmpty_11 : decode cX1_becomeEmpty 11 = .ok (.istore_n 3, 1) := by decide +kernel
theorem dX1_becomeEmpty_12 : decode cX1_becomeEmpty 12 = .ok (.iload_n 3, 1) := by decide +kernel
theorem dX1_becomeEmpty_13 : decode cX1_becomeEmpty 13 = .ok (.aload_n 0, 1) := by decide +kernel
theorem dX1_becomeEmpty_14 : decode cX1_becomeEmpty 14 = .ok (.getfield 21, 3) := by decide +kernel
theorem dX1_becomeEmpty_17 : decode cX1_becomeEmpty 17 = .ok (.arraylength, 1) := by decide +kernel
theorem dX1_becomeEmpty_18 : decode cX1_becomeEmpty 18 = .ok (.if_icmp .ge 16, 3) := by decide +kernel
theorem dX1_becomeEmpty_21 : decode cX1_becomeEmpty 21 = .ok (.aload_n 0, 1) := by decide +kernel
theorem dX1_becomeEmpty_22 : decode cX1_becomeEmpty 22 = .ok (.getfield 21, 3) := by decide +kernel
theorem dX1_becomeEmpty_25 : decode cX1_becomeEmpty 25 = .ok (.iload_n 3, 1) := by decide +kernel
theorem dX1_becomeEmpty_26 : decode cX1_becomeEmpty 26 = .ok (.iconst 0, 1) := by decide +kernel
theorem dX1_becomeEmpty_27 : decode cX1_becomeEmpty 27 = .ok (.iastore, 1) := by decide +kernel
theorem dX1_becomeEmpty_28 : decode cX1_becomeEmpty 28 = .ok (.iinc 3 1, 3) := by decide +kernel
theorem dX1_becomeEmpty_31 : decode cX1_becomeEmpty 31 = .ok (.goto (-19), 3) := by decide +kernel
theorem dX1_becomeEmpty_34 : decode cX1_becomeEmpty 34 = .ok (.return_, 1) := by decide +kernel
theorem dX1_copyOf_0 : decode cX1_copyOf 0 = .ok (.aload_n 0, 1) := by decide +kernel
theorem dX1_copyOf_1 : decode cX1_copyOf 1 = .ok (.aload_n 1, 1) := by decide +kernel
theorem dX1_copyOf_2 : decode cX1_copyOf 2 = .ok (.getfield 9, 3) := by decide +kernel
theorem dX1_copyOf_5 : decode cX1_copyOf 5 = .ok (.putfield 9, 3) := by decide +kernel
theorem dX1_copyOf_8 : decode cX1_copyOf 8 = .ok (.aload_n 0, 1) := by decide +kernel
theorem dX1_copyOf_9 : decode cX1_copyOf 9 = .ok (.aload_n 1, 1) := by decide +kernel
theorem dX1_copyOf_10 : decode cX1_copyOf 10 = .ok (.getfield 15, 3) := by decide +kernel
theorem dX1_copyOf_13 : decode cX1_copyOf 13 = .ok (.putfield 15, 3) := by decide +kernel
theorem dX1_copyOf_16 : decode cX1_copyOf 16 = .ok (.aload_n 0, 1) := by decide +kernel
theorem dX1_copyOf_17 : decode cX1_copyOf 17 = .ok (.aload_n 1, 1) := by decide +kernel
theorem dX1_copyOf_18 : decode cX1_copyOf 18 = .ok (.getfield 18, 3) := by decide +kernel
theorem dX1_copyOf_21 : decode cX1_copyOf 21 = .ok (.putfield 18, 3) := by decide +kernel
theorem dX1_copyOf_24 : decode cX1_copyOf 24 = .ok (.aload_n 1, 1) := by decide +kernel
theorem dX1_copyOf_25 : decode cX1_copyOf 25 = .ok (.getfield 21, 3) := by decide +kernel
theorem dX1_copyOf_28 : decode cX1_copyOf 28 = .ok (.aload_n 0, 1) := by decide +kernel
theorem dX1_copyOf_29 : decode cX1_copyOf 29 = .ok (.getfield 21, 3) := by decide +kernel
theorem dX1_copyOf_32 : decode cX1_copyOf 32 = .ok (.invokestatic 44, 3) := by decide +kernel
theorem dX1_copyOf_35 : decode cX1_copyOf 35 = .ok (.return_, 1) := by decide +kernel
theorem dX1_hasCellsOf_0 : decode cX1_hasCellsOf 0 = .ok (.aload_n 0, 1) := by decide +kernel
theorem dX1_hasCellsOf_1 : decode cX1_hasCellsOf 1 = .ok (.aload_n 1, 1) := by decide +kernel
theorem dX1_hasCellsOf_2 : decode cX1_hasCellsOf 2 = .ok (.iconst 0, 1) := by decide +kernel
theorem dX1_hasCellsOf_3 : decode cX1_hasCellsOf 3 = .ok (.iconst 0, 1) := by decide +kernel
theorem dX1_hasCellsOf_4 : decode cX1_hasCellsOf 4 = .ok (.invokevirtual 48, 3) := by decide +kernel
theorem dX1_hasCellsOf_7 : decode cX1_hasCellsOf 7 = .ok (.ireturn, 1) := by decide +kernel
theorem dX1_isShifted_0 : decode cX1_isShifted 0 = .ok (.iconst 0, 1) := by decide +kernel
theorem dX1_isShifted_1 : decode cX1_isShifted 1 = .ok (.istore 4, 2) := by decide +kernel
theorem dX1_isShifted_3 : decode cX1_isShifted 3 = .ok (.iload 4, 2) := by decide +kernel
theorem dX1_isShifted_5 : decode cX1_isShifted 5 = .ok (.aload_n 0, 1) := by decide +kernel
theorem dX1_isShifted_6 : decode cX1_isShifted 6 = .ok (.getfield 15, 3) := by decide +kernel
theorem dX1_isShifted_9 : decode cX1_isShifted 9 = .ok (.if_icmp .ge 67, 3) := by decide +kernel
theorem dX1_isShifted_12 : decode cX1_isShifted 12 = .ok (.aload_n 1, 1) := by decide +kernel
theorem dX1_isShifted_13 : decode cX1_isShifted 13 = .ok (.iload 4, 2) := by decide +kernel
theorem dX1_isShifted_15 : decode cX1_isShifted 15 = .ok (.invokevirtual 52, 3) := by decide +kernel
theorem dX1_isShifted_18 : decode cX1_isShifted 18 = .ok (.istore 5, 2) := by decide +kernel
theorem dX1_isShifted_20 : decode cX1_isShifted 20 = .ok (.iload 5, 2) := by decide +kernel
theorem dX1_isShifted_22 : decode cX1_isShifted 22 = .ok (.iload_n 2, 1) := by decide +kernel
theorem dX1_isShifted_23 : decode cX1_isShifted 23 = .ok (.ishl, 1) := by decide +kernel
theorem dX1_isShifted_24 : decode cX1_isShifted 24 = .ok (.iload 5, 2) := by decide +kernel
theorem dX1_isShifted_26 : decode cX1_isShifted 26 = .ok (.aload_n 0, 1) := by decide +kernel
theorem dX1_isShifted_27 : decode cX1_isShifted 27 = .ok (.getfield 9, 3) := by decide +kernel
theorem dX1_isShifted_30 : decode cX1_isShifted 30 = .ok (.iload_n 2, 1) := by decide +kernel
theorem dX1_isShifted_31 : decode cX1_isShifted 31 = .ok (.isub, 1) := by decide +kernel
theorem dX1_isShifted_32 : decode cX1_isShifted 32 = .ok (.ishr, 1) := by decide +kernel
theorem dX1_isShifted_33 : decode cX1_isShifted 33 = .ok (.ior, 1) := by decide +kernel
theorem dX1_isShifted_34 : decode cX1_isShifted 34 = .ok (.iconst 1, 1) := by decide +kernel
theorem dX1_isShifted_35 : decode cX1_isShifted 35 = .ok (.aload_n 0, 1) := by decide +kernel
theorem dX1_isShifted_36 : decode cX1_isShifted 36 = .ok (.getfield 9, 3) := by decide +kernel
theorem dX1_isShifted_39 : decode cX1_isShifted 39 = .ok (.ishl, 1) := by decide +kernel
theorem dX1_isShifted_40 : decode cX1_isShifted 40 = .ok (.iconst 1, 1) := by decide +kernel
theorem dX1_isShifted_41 : decode cX1_isShifted 41 = .ok (.isub, 1) := by decide +kernel
theorem dX1_isShifted_42 : decode cX1_isShifted 42 = .ok (.iand, 1) := by decide +kernel
theorem dX1_isShifted_43 : decode cX1_isShifted 43 = .ok (.istore 6, 2) := by decide +kernel
theorem dX1_isShifted_45 : decode cX1_isShifted 45 = .ok (.aload_n 0, 1) := by decide +kernel
theorem dX1_isShifted_46 : decode cX1_isShifted 46 = .ok (.getfield 21, 3) := by decide +kernel
theorem dX1_isShifted_49 : decode cX1_isShifted 49 = .ok (.iload 4, 2) := by decide +kernel
theorem dX1_isShifted_51 : decode cX1_isShifted 51 = .ok (.iload_n 3, 1) := by decide +kernel
theorem dX1_isShifted_52 : decode cX1_isShifted 52 = .ok (.iadd, 1) := by decide +kernel
theorem dX1_isShifted_53 : decode cX1_isShifted 53 = .ok (.aload_n 0, 1) := by decide +kernel
theorem dX1_isShifted_54 : decode cX1_isShifted 54 = .ok (.getfield 15, 3) := by decide +kernel
theorem dX1_isShifted_57 : decode cX1_isShifted 57 = .ok (.invokestatic 55, 3) := by decide +kernel
theorem dX1_isShifted_60 : decode cX1_isShifted 60 = .ok (.invokestatic 25, 3) := by decide +kernel
theorem dX1_isShifted_63 : decode cX1_isShifted 63 = .ok (.iload 6, 2) := by decide +kernel
theorem dX1_isShifted_65 : decode cX1_isShifted 65 = .ok (.if_icmp .eq 5, 3) := by decide +kernel
theorem dX1_isShifted_68 : decode cX1_isShifted 68 = .ok (.iconst 0, 1) := by decide +kernel
theorem dX1_isShifted_69 : decode cX1_isShifted 69 = .ok (.ireturn, 1) := by decide +kernel
theorem dX1_isShifted_70 : decode cX1_isShifted 70 = .ok (.iinc 4 1, 3) := by decide +kernel
theorem dX1_isShifted_73 : decode cX1_isShifted 73 = .ok (.goto (-70), 3) := by decide +kernel
theorem dX1_isShifted_76 : decode cX1_isShifted 76 = .ok (.iconst 1, 1) := by decide +kernel
theorem dX1_isShifted_77 : decode cX1_isShifted 77 = .ok (.ireturn, 1) := by decide +kernel
theorem dX1_stateAround_0 : decode cX1_stateAround 0 = .ok (.iload_n 1, 1) := by decide +kernel
theorem dX1_stateAround_1 : decode cX1_stateAround 1 = .ok (.iload_n 1, 1) := by decide +kernel
theorem dX1_stateAround_2 : decode cX1_stateAround 2 = .ok (.aload_n 0, 1) := by decide +kernel
theorem dX1_stateAround_3 : decode cX1_stateAround 3 = .ok (.invokevirtual 59, 3) := by decide +kernel
theorem dX1_stateAround_6 : decode cX1_stateAround 6 = .ok (.ixor, 1) := by decide +kernel
theorem dX1_stateAround_7 : decode cX1_stateAround 7 = .ok (.iconst 1, 1) := by decide +kernel
theorem dX1_stateAround_8 : decode cX1_stateAround 8 = .ok (.iand, 1) := by decide +kernel
theorem dX1_stateAround_9 : decode cX1_stateAround 9 = .ok (.isub, 1) := by decide +kernel
theorem dX1_stateAround_10 : decode cX1_stateAround 10 = .ok (.aload_n 0, 1) := by decide +kernel
theorem dX1_stateAround_11 : decode cX1_stateAround 11 = .ok (.getfield 9, 3) := by decide +kernel
theorem dX1_stateAround_14 : decode cX1_stateAround 14 = .ok (.invokestatic 55, 3) := by decide +kernel
theorem dX1_stateAround_17 : decode cX1_stateAround 17 = .ok (.istore_n 3, 1) := by decide +kernel
theorem dX1_stateAround_18 : decode cX1_stateAround 18 = .ok (.iload_n 2, 1) := by decide +kernel
theorem dX1_stateAround_19 : decode cX1_stateAround 19 = .ok (.iload_n 2, 1) := by decide +kernel
theorem dX1_stateAround_20 : decode cX1_stateAround 20 = .ok (.aload_n 0, 1) := by decide +kernel
theorem dX1_stateAround_21 : decode cX1_stateAround 21 = .ok (.invokevirtual 59, 3) := by decide +kernel
theorem dX1_stateAround_24 : decode cX1_stateAround 24 = .ok (.ixor, 1) := by decide +kernel
theorem dX1_stateAround_25 : decode cX1_stateAround 25 = .ok (.iconst 1, 1) := by decide +kernel
theorem dX1_stateAround_26 : decode cX1_stateAround 26 = .ok (.iand, 1) := by decide +kernel
theorem dX1_stateAround_27 : decode cX1_stateAround 27 = .ok (.isub, 1) := by decide +kernel
theorem dX1_stateAround_28 : decode cX1_stateAround 28 = .ok (.aload_n 0, 1) := by decide +kernel
theorem dX1_stateAround_29 : decode cX1_stateAround 29 = .ok (.getfield 15, 3) := by decide +kernel
theorem dX1_stateAround_32 : decode cX1_stateAround 32 = .ok (.invokestatic 55, 3) := by decide +kernel
theorem dX1_stateAround_35 : decode cX1_stateAround 35 = .ok (.istore 4, 2) := by decide +kernel
theorem dX1_stateAround_37 : decode cX1_stateAround 37 = .ok (.aload_n 0, 1) := by decide +kernel
theorem dX1_stateAround_38 : decode cX1_stateAround 38 = .ok (.iload_n 3, 1) := by decide +kernel
theorem dX1_stateAround_39 : decode cX1_stateAround 39 = .ok (.iload 4, 2) := by decide +kernel
theorem dX1_stateAround_41 : decode cX1_stateAround 41 = .ok (.invokevirtual 63, 3) := by decide +kernel
theorem dX1_stateAround_44 : decode cX1_stateAround 44 = .ok (.ireturn, 1) := by decide +kernel
theorem dX1_stateOf_0 : decode cX1_stateOf 0 = .ok (.iload_n 1, 1) := by decide +kernel
theorem dX1_stateOf_1 : decode cX1_stateOf 1 = .ok (.iconst 1, 1) := by decide +kernel
theorem dX1_stateOf_2 : decode cX1_stateOf 2 = .ok (.iadd, 1) := by decide +kernel
theorem dX1_stateOf_3 : decode cX1_stateOf 3 = .ok (.aload_n 0, 1) := by decide +kernel
theorem dX1_stateOf_4 : decode cX1_stateOf 4 = .ok (.getfield 9, 3) := by decide +kernel
theorem dX1_stateOf_7 : decode cX1_stateOf 7 = .ok (.invokestatic 55, 3) := by decide +kernel
theorem dX1_stateOf_10 : decode cX1_stateOf 10 = .ok (.istore_n 3, 1) := by decide +kernel
theorem dX1_stateOf_11 : decode cX1_stateOf 11 = .ok (.aload_n 0, 1) := by decide +kernel
theorem dX1_stateOf_12 : decode cX1_stateOf 12 = .ok (.getfield 21, 3) := by decide +kernel
theorem dX1_stateOf_15 : decode cX1_stateOf 15 = .ok (.iload_n 2, 1) := by decide +kernel
theorem dX1_stateOf_16 : decode cX1_stateOf 16 = .ok (.invokestatic 25, 3) := by decide +kernel
theorem dX1_stateOf_19 : decode cX1_stateOf 19 = .ok (.istore 4, 2) := by decide +kernel
theorem dX1_stateOf_21 : decode cX1_stateOf 21 = .ok (.aload_n 0, 1) := by decide +kernel
theorem dX1_stateOf_22 : decode cX1_stateOf 22 = .ok (.getfield 21, 3) := by decide +kernel
theorem dX1_stateOf_25 : decode cX1_stateOf 25 = .ok (.iload_n 2, 1) := by decide +kernel
theorem dX1_stateOf_26 : decode cX1_stateOf 26 = .ok (.iconst 1, 1) := by decide +kernel
theorem dX1_stateOf_27 : decode cX1_stateOf 27 = .ok (.iadd, 1) := by decide +kernel
theorem dX1_stateOf_28 : decode cX1_stateOf 28 = .ok (.aload_n 0, 1) := by decide +kernel
theorem dX1_stateOf_29 : decode cX1_stateOf 29 = .ok (.getfield 15, 3) := by decide +kernel
theorem dX1_stateOf_32 : decode cX1_stateOf 32 = .ok (.invokestatic 55, 3) := by decide +kernel
theorem dX1_stateOf_35 : decode cX1_stateOf 35 = .ok (.invokestatic 25, 3) := by decide +kernel
theorem dX1_stateOf_38 : decode cX1_stateOf 38 = .ok (.istore 5, 2) := by decide +kernel
theorem dX1_stateOf_40 : decode cX1_stateOf 40 = .ok (.iload 4, 2) := by decide +kernel
theorem dX1_stateOf_42 : decode cX1_stateOf 42 = .ok (.iload_n 1, 1) := by decide +kernel
theorem dX1_stateOf_43 : decode cX1_stateOf 43 = .ok (.iload_n 3, 1) := by decide +kernel
theorem dX1_stateOf_44 : decode cX1_stateOf 44 = .ok (.invokestatic 66, 3) := by decide +kernel
theorem dX1_stateOf_47 : decode cX1_stateOf 47 = .ok (.iload 5, 2) := by decide +kernel
theorem dX1_stateOf_49 : decode cX1_stateOf 49 = .ok (.iload_n 1, 1) := by decide +kernel
theorem dX1_stateOf_50 : decode cX1_stateOf 50 = .ok (.iload_n 3, 1) := by decide +kernel
theorem dX1_stateOf_51 : decode cX1_stateOf 51 = .ok (.invokestatic 66, 3) := by decide +kernel
theorem dX1_stateOf_54 : decode cX1_stateOf 54 = .ok (.iconst 2, 1) := by decide +kernel
theorem dX1_stateOf_55 : decode cX1_stateOf 55 = .ok (.ishl, 1) := by decide +kernel
theorem dX1_stateOf_56 : decode cX1_stateOf 56 = .ok (.ior, 1) := by decide +kernel
theorem dX1_stateOf_57 : decode cX1_stateOf 57 = .ok (.ireturn, 1) := by decide +kernel
theorem dX1_putState_0 : decode cX1_putState 0 = .ok (.iload_n 1, 1) := by decide +kernel
theorem dX1_putState_1 : decode cX1_putState 1 = .ok (.iconst 1, 1) := by decide +kernel
theorem dX1_putState_2 : decode cX1_putState 2 = .ok (.iadd, 1) := by decide +kernel
theorem dX1_putState_3 : decode cX1_putState 3 = .ok (.aload_n 0, 1) := by decide +kernel
theorem dX1_putState_4 : decode cX1_putState 4 = .ok (.getfield 9, 3) := by decide +kernel
theorem dX1_putState_7 : decode cX1_putState 7 = .ok (.invokestatic 55, 3) := by decide +kernel
theorem dX1_putState_10 : decode cX1_putState 10 = .ok (.istore 4, 2) := by decide +kernel
theorem dX1_putState_12 : decode cX1_putState 12 = .ok (.iload_n 2, 1) := by decide +kernel
theorem dX1_putState_13 : decode cX1_putState 13 = .ok (.iconst 1, 1) := by decide +kernel
theorem dX1_putState_14 : decode cX1_putState 14 = .ok (.iadd, 1) := by decide +kernel
theorem dX1_putState_15 : decode cX1_putState 15 = .ok (.aload_n 0, 1) := by decide +kernel
theorem dX1_putState_16 : decode cX1_putState 16 = .ok (.getfield 15, 3) := by decide +kernel
theorem dX1_putState_19 : decode cX1_putState 19 = .ok (.invokestatic 55, 3) := by decide +kernel
theorem dX1_putState_22 : decode cX1_putState 22 = .ok (.istore 5, 2) := by decide +kernel
theorem dX1_putState_24 : decode cX1_putState 24 = .ok (.aload_n 0, 1) := by decide +kernel
theorem dX1_putState_25 : decode cX1_putState 25 = .ok (.getfield 21, 3) := by decide +kernel
theorem dX1_putState_28 : decode cX1_putState 28 = .ok (.iload_n 2, 1) := by decide +kernel
theorem dX1_putState_29 : decode cX1_putState 29 = .ok (.aload_n 0, 1) := by decide +kernel
theorem dX1_putState_30 : decode cX1_putState 30 = .ok (.getfield 21, 3) := by decide +kernel
theorem dX1_putState_33 : decode cX1_putState 33 = .ok (.iload_n 2, 1) := by decide +kernel
theorem dX1_putState_34 : decode cX1_putState 34 = .ok (.invokestatic 25, 3) := by decide +kernel
theorem dX1_putState_37 : decode cX1_putState 37 = .ok (.iload_n 1, 1) := by decide +kernel
theorem dX1_putState_38 : decode cX1_putState 38 = .ok (.iload 4, 2) := by decide +kernel
theorem dX1_putState_40 : decode cX1_putState 40 = .ok (.iload_n 3, 1) := by decide +kernel
theorem dX1_putState_41 : decode cX1_putState 41 = .ok (.invokestatic 70, 3) := by decide +kernel
theorem dX1_putState_44 : decode cX1_putState 44 = .ok (.invokestatic 29, 3) := by decide +kernel
theorem dX1_putState_47 : decode cX1_putState 47 = .ok (.aload_n 0, 1) := by decide +kernel
theorem dX1_putState_48 : decode cX1_putState 48 = .ok (.getfield 21, 3) := by decide +kernel
theorem dX1_putState_51 : decode cX1_putState 51 = .ok (.iload 5, 2) := by decide +kernel
theorem dX1_putState_53 : decode cX1_putState 53 = .ok (.aload_n 0, 1) := by decide +kernel
theorem dX1_putState_54 : decode cX1_putState 54 = .ok (.getfield 21, 3) := by decide +kernel
theorem dX1_putState_57 : decode cX1_putState 57 = .ok (.iload 5, 2) := by decide +kernel
theorem dX1_putState_59 : decode cX1_putState 59 = .ok (.invokestatic 25, 3) := by decide +kernel
theorem dX1_putState_62 : decode cX1_putState 62 = .ok (.iload_n 1, 1) := by decide +kernel
theorem dX1_putState_63 : decode cX1_putState 63 = .ok (.iload 4, 2) := by decide +kernel
theorem dX1_putState_65 : decode cX1_putState 65 = .ok (.iload_n 3, 1) := by decide +kernel
theorem dX1_putState_66 : decode cX1_putState 66 = .ok (.iconst 2, 1) := by decide +kernel
theorem dX1_putState_67 : decode cX1_putState 67 = .ok (.ishr, 1) := by decide +kernel
theorem dX1_putState_68 : decode cX1_putState 68 = .ok (.invokestatic 70, 3) := by decide +kernel
theorem dX1_putState_71 : decode cX1_putState 71 = .ok (.invokestatic 29, 3) := by decide +kernel
theorem dX1_putState_74 : decode cX1_putState 74 = .ok (.return_, 1) := by decide +kernel
theorem dX1_pairOf_0 : decode cX1_pairOf 0 = .ok (.iload_n 0, 1) := by decide +kernel
theorem dX1_pairOf_1 : decode cX1_pairOf 1 = .ok (.iload_n 1, 1) := by decide +kernel
theorem dX1_pairOf_2 : decode cX1_pairOf 2 = .ok (.ishr, 1) := by decide +kernel
theorem dX1_pairOf_3 : decode cX1_pairOf 3 = .ok (.iconst 1, 1) := by decide +kernel
theorem dX1_pairOf_4 : decode cX1_pairOf 4 = .ok (.iand, 1) := by decide +kernel
theorem dX1_pairOf_5 : decode cX1_pairOf 5 = .ok (.iload_n 0, 1) := by decide +kernel
theorem dX1_pairOf_6 : decode cX1_pairOf 6 = .ok (.iload_n 2, 1) := by decide +kernel
theorem dX1_pairOf_7 : decode cX1_pairOf 7 = .ok (.ishr, 1) := by decide +kernel
theorem dX1_pairOf_8 : decode cX1_pairOf 8 = .ok (.iconst 1, 1) := by decide +kernel
theorem dX1_pairOf_9 : decode cX1_pairOf 9 = .ok (.iand, 1) := by decide +kernel
theorem dX1_pairOf_10 : decode cX1_pairOf 10 = .ok (.iconst 1, 1) := by decide +kernel
theorem dX1_pairOf_11 : decode cX1_pairOf 11 = .ok (.ishl, 1) := by decide +kernel
theorem dX1_pairOf_12 : decode cX1_pairOf 12 = .ok (.ior, 1) := by decide +kernel
theorem dX1_pairOf_13 : decode cX1_pairOf 13 = .ok (.ireturn, 1) := by decide +kernel
theorem dX1_withPair_0 : decode cX1_withPair 0 = .ok (.iload_n 0, 1) := by decide +kernel
theorem dX1_withPair_1 : decode cX1_withPair 1 = .ok (.iconst 1, 1) := by decide +kernel
theorem dX1_withPair_2 : decode cX1_withPair 2 = .ok (.iload_n 1, 1) := by decide +kernel
theorem dX1_withPair_3 : decode cX1_withPair 3 = .ok (.ishl, 1) := by decide +kernel
theorem dX1_withPair_4 : decode cX1_withPair 4 = .ok (.iconst 1, 1) := by decide +kernel
theorem dX1_withPair_5 : decode cX1_withPair 5 = .ok (.iload_n 2, 1) := by decide +kernel
theorem dX1_withPair_6 : decode cX1_withPair 6 = .ok (.ishl, 1) := by decide +kernel
theorem dX1_withPair_7 : decode cX1_withPair 7 = .ok (.ior, 1) := by decide +kernel
theorem dX1_withPair_8 : decode cX1_withPair 8 = .ok (.iconst (-1), 1) := by decide +kernel
theorem dX1_withPair_9 : decode cX1_withPair 9 = .ok (.ixor, 1) := by decide +kernel
theorem dX1_withPair_10 : decode cX1_withPair 10 = .ok (.iand, 1) := by decide +kernel
theorem dX1_withPair_11 : decode cX1_withPair 11 = .ok (.istore 4, 2) := by decide +kernel
theorem dX1_withPair_13 : decode cX1_withPair 13 = .ok (.iload 4, 2) := by decide +kernel
theorem dX1_withPair_15 : decode cX1_withPair 15 = .ok (.iload_n 3, 1) := by decide +kernel
theorem dX1_withPair_16 : decode cX1_withPair 16 = .ok (.iconst 1, 1) := by decide +kernel
theorem dX1_withPair_17 : decode cX1_withPair 17 = .ok (.iand, 1) := by decide +kernel
theorem dX1_withPair_18 : decode cX1_withPair 18 = .ok (.iload_n 1, 1) := by decide +kernel
theorem dX1_withPair_19 : decode cX1_withPair 19 = .ok (.ishl, 1) := by decide +kernel
theorem dX1_withPair_20 : decode cX1_withPair 20 = .ok (.ior, 1) := by decide +kernel
theorem dX1_withPair_21 : decode cX1_withPair 21 = .ok (.iload_n 3, 1) := by decide +kernel
theorem dX1_withPair_22 : decode cX1_withPair 22 = .ok (.iconst 1, 1) := by decide +kernel
theorem dX1_withPair_23 : decode cX1_withPair 23 = .ok (.ishr, 1) := by decide +kernel
theorem dX1_withPair_24 : decode cX1_withPair 24 = .ok (.iconst 1, 1) := by decide +kernel
theorem dX1_withPair_25 : decode cX1_withPair 25 = .ok (.iand, 1) := by decide +kernel
theorem dX1_withPair_26 : decode cX1_withPair 26 = .ok (.iload_n 2, 1) := by decide +kernel
theorem dX1_withPair_27 : decode cX1_withPair 27 = .ok (.ishl, 1) := by decide +kernel
theorem dX1_withPair_28 : decode cX1_withPair 28 = .ok (.ior, 1) := by decide +kernel
theorem dX1_withPair_29 : decode cX1_withPair 29 = .ok (.ireturn, 1) := by decide +kernel
theorem dX1_turnBlocks_0 : decode cX1_turnBlocks 0 = .ok (.aload_n 0, 1) := by decide +kernel
theorem dX1_turnBlocks_1 : decode cX1_turnBlocks 1 = .ok (.invokevirtual 59, 3) := by decide +kernel
theorem dX1_turnBlocks_4 : decode cX1_turnBlocks 4 = .ok (.istore_n 3, 1) := by decide +kernel
theorem dX1_turnBlocks_5 : decode cX1_turnBlocks 5 = .ok (.iload_n 3, 1) := by decide +kernel
theorem dX1_turnBlocks_6 : decode cX1_turnBlocks 6 = .ok (.aload_n 0, 1) := by decide +kernel
theorem dX1_turnBlocks_7 : decode cX1_turnBlocks 7 = .ok (.getfield 15, 3) := by decide +kernel
theorem dX1_turnBlocks_10 : decode cX1_turnBlocks 10 = .ok (.if_icmp .ge 65, 3) := by decide +kernel
theorem dX1_turnBlocks_13 : decode cX1_turnBlocks 13 = .ok (.aload_n 0, 1) := by decide +kernel
theorem dX1_turnBlocks_14 : decode cX1_turnBlocks 14 = .ok (.invokevirtual 59, 3) := by decide +kernel
theorem dX1_turnBlocks_17 : decode cX1_turnBlocks 17 = .ok (.istore 4, 2) := by decide +kernel
theorem dX1_turnBlocks_19 : decode cX1_turnBlocks 19 = .ok (.iload 4, 2) := by decide +kernel
theorem dX1_turnBlocks_21 : decode cX1_turnBlocks 21 = .ok (.aload_n 0, 1) := by decide +kernel
theorem dX1_turnBlocks_22 : decode cX1_turnBlocks 22 = .ok (.getfield 9, 3) := by decide +kernel
theorem dX1_turnBlocks_25 : decode cX1_turnBlocks 25 = .ok (.if_icmp .ge 44, 3) := by decide +kernel
theorem dX1_turnBlocks_28 : decode cX1_turnBlocks 28 = .ok (.aload_n 0, 1) := by decide +kernel
theorem dX1_turnBlocks_29 : decode cX1_turnBlocks 29 = .ok (.iload 4, 2) := by decide +kernel
theorem dX1_turnBlocks_31 : decode cX1_turnBlocks 31 = .ok (.iload_n 3, 1) := by decide +kernel
theorem dX1_turnBlocks_32 : decode cX1_turnBlocks 32 = .ok (.invokevirtual 63, 3) := by decide +kernel
theorem dX1_turnBlocks_35 : decode cX1_turnBlocks 35 = .ok (.istore 5, 2) := by decide +kernel
theorem dX1_turnBlocks_37 : decode cX1_turnBlocks 37 = .ok (.aload_n 0, 1) := by decide +kernel
theorem dX1_turnBlocks_38 : decode cX1_turnBlocks 38 = .ok (.iload 4, 2) := by decide +kernel
theorem dX1_turnBlocks_40 : decode cX1_turnBlocks 40 = .ok (.iload_n 3, 1) := by decide +kernel
theorem dX1_turnBlocks_41 : decode cX1_turnBlocks 41 = .ok (.iload_n 2, 1) := by decide +kernel
theorem dX1_turnBlocks_42 : decode cX1_turnBlocks 42 = .ok (.ifCond .eq 12, 3) := by decide +kernel
theorem dX1_turnBlocks_45 : decode cX1_turnBlocks 45 = .ok (.aload_n 1, 1) := by decide +kernel
theorem dX1_turnBlocks_46 : decode cX1_turnBlocks 46 = .ok (.iload 5, 2) := by decide +kernel
theorem dX1_turnBlocks_48 : decode cX1_turnBlocks 48 = .ok (.invokevirtual 74, 3) := by decide +kernel
theorem dX1_turnBlocks_51 : decode cX1_turnBlocks 51 = .ok (.goto 9, 3) := by decide +kernel
theorem dX1_turnBlocks_54 : decode cX1_turnBlocks 54 = .ok (.aload_n 1, 1) := by decide +kernel
theorem dX1_turnBlocks_55 : decode cX1_turnBlocks 55 = .ok (.iload 5, 2) := by decide +kernel
theorem dX1_turnBlocks_57 : decode cX1_turnBlocks 57 = .ok (.invokevirtual 79, 3) := by decide +kernel
theorem dX1_turnBlocks_60 : decode cX1_turnBlocks 60 = .ok (.invokevirtual 82, 3) := by decide +kernel
theorem dX1_turnBlocks_63 : decode cX1_turnBlocks 63 = .ok (.iinc 4 2, 3) := by decide +kernel
theorem dX1_turnBlocks_66 : decode cX1_turnBlocks 66 = .ok (.goto (-47), 3) := by decide +kernel
theorem dX1_turnBlocks_69 : decode cX1_turnBlocks 69 = .ok (.iinc 3 2, 3) := by decide +kernel
theorem dX1_turnBlocks_72 : decode cX1_turnBlocks 72 = .ok (.goto (-67), 3) := by decide +kernel
theorem dX1_turnBlocks_75 : decode cX1_turnBlocks 75 = .ok (.return_, 1) := by decide +kernel
theorem dX1_go_0 : decode cX1_go 0 = .ok (.iconst 0, 1) := by decide +kernel
theorem dX1_go_1 : decode cX1_go 1 = .ok (.istore_n 3, 1) := by decide +kernel
theorem dX1_go_2 : decode cX1_go 2 = .ok (.iload_n 3, 1) := by decide +kernel
theorem dX1_go_3 : decode cX1_go 3 = .ok (.iload_n 1, 1) := by decide +kernel
theorem dX1_go_4 : decode cX1_go 4 = .ok (.if_icmp .ge 25, 3) := by decide +kernel
theorem dX1_go_7 : decode cX1_go 7 = .ok (.aload_n 0, 1) := by decide +kernel
theorem dX1_go_8 : decode cX1_go 8 = .ok (.aload_n 2, 1) := by decide +kernel
theorem dX1_go_9 : decode cX1_go 9 = .ok (.iconst 0, 1) := by decide +kernel
theorem dX1_go_10 : decode cX1_go 10 = .ok (.invokevirtual 86, 3) := by decide +kernel
theorem dX1_go_13 : decode cX1_go 13 = .ok (.aload_n 0, 1) := by decide +kernel
theorem dX1_go_14 : decode cX1_go 14 = .ok (.dup, 1) := by decide +kernel
theorem dX1_go_15 : decode cX1_go 15 = .ok (.getfield 18, 3) := by decide +kernel
theorem dX1_go_18 : decode cX1_go 18 = .ok (.iconst 1, 1) := by decide +kernel
theorem dX1_go_19 : decode cX1_go 19 = .ok (.iadd, 1) := by decide +kernel
theorem dX1_go_20 : decode cX1_go 20 = .ok (.putfield 18, 3) := by decide +kernel
theorem dX1_go_23 : decode cX1_go 23 = .ok (.iinc 3 1, 3) := by decide +kernel
theorem dX1_go_26 : decode cX1_go 26 = .ok (.goto (-24), 3) := by decide +kernel
theorem dX1_go_29 : decode cX1_go 29 = .ok (.iconst 0, 1) := by decide +kernel
theorem dX1_go_30 : decode cX1_go 30 = .ok (.istore_n 3, 1) := by decide +kernel
theorem dX1_go_31 : decode cX1_go 31 = .ok (.iload_n 3, 1) := by decide +kernel
theorem dX1_go_32 : decode cX1_go 32 = .ok (.iload_n 1, 1) := by decide +kernel
theorem dX1_go_33 : decode cX1_go 33 = .ok (.if_icmp .le 25, 3) := by decide +kernel
theorem dX1_go_36 : decode cX1_go 36 = .ok (.aload_n 0, 1) := by decide +kernel
theorem dX1_go_37 : decode cX1_go 37 = .ok (.dup, 1) := by decide +kernel
theorem dX1_go_38 : decode cX1_go 38 = .ok (.getfield 18, 3) := by decide +kernel
theorem dX1_go_41 : decode cX1_go 41 = .ok (.iconst 1, 1) := by decide +kernel
theorem dX1_go_42 : decode cX1_go 42 = .ok (.isub, 1) := by decide +kernel
theorem dX1_go_43 : decode cX1_go 43 = .ok (.putfield 18, 3) := by decide +kernel
theorem dX1_go_46 : decode cX1_go 46 = .ok (.aload_n 0, 1) := by decide +kernel
theorem dX1_go_47 : decode cX1_go 47 = .ok (.aload_n 2, 1) := by decide +kernel
theorem dX1_go_48 : decode cX1_go 48 = .ok (.iconst 1, 1) := by decide +kernel
theorem dX1_go_49 : decode cX1_go 49 = .ok (.invokevirtual 86, 3) := by decide +kernel
theorem dX1_go_52 : decode cX1_go 52 = .ok (.iinc 3 (-1), 3) := by decide +kernel
theorem dX1_go_55 : decode cX1_go 55 = .ok (.goto (-24), 3) := by decide +kernel
theorem dX1_go_58 : decode cX1_go 58 = .ok (.return_, 1) := by decide +kernel
theorem dX2_init_0 : decode cX2_init 0 = .ok (.aload_n 0, 1) := by decide +kernel
theorem dX2_init_1 : decode cX2_init 1 = .ok (.invokespecial 3, 3) := by decide +kernel
theorem dX2_init_4 : decode cX2_init 4 = .ok (.aload_n 0, 1) := by decide +kernel
theorem dX2_init_5 : decode cX2_init 5 = .ok (.iconst (-1), 1) := by decide +kernel
theorem dX2_init_6 : decode cX2_init 6 = .ok (.putfield 9, 3) := by decide +kernel
theorem dX2_init_9 : decode cX2_init 9 = .ok (.aload_n 0, 1) := by decide +kernel
theorem dX2_init_10 : decode cX2_init 10 = .ok (.bipush 20, 2) := by decide +kernel
theorem dX2_init_12 : decode cX2_init 12 = .ok (.newarray .long, 2) := by decide +kernel
theorem dX2_init_14 : decode cX2_init 14 = .ok (.putfield 15, 3) := by decide +kernel
theorem dX2_init_17 : decode cX2_init 17 = .ok (.return_, 1) := by decide +kernel
theorem dX2_isNothing_0 : decode cX2_isNothing 0 = .ok (.aload_n 0, 1) := by decide +kernel
theorem dX2_isNothing_1 : decode cX2_isNothing 1 = .ok (.getfield 9, 3) := by decide +kernel
theorem dX2_isNothing_4 : decode cX2_isNothing 4 = .ok (.ifCond .ge 7, 3) := by decide +kernel
theorem dX2_isNothing_7 : decode cX2_isNothing 7 = .ok (.iconst 1, 1) := by decide +kernel
theorem dX2_isNothing_8 : decode cX2_isNothing 8 = .ok (.goto 4, 3) := by decide +kernel
theorem dX2_isNothing_11 : decode cX2_isNothing 11 = .ok (.iconst 0, 1) := by decide +kernel
theorem dX2_isNothing_12 : decode cX2_isNothing 12 = .ok (.ireturn, 1) := by decide +kernel
theorem dX2_has_0 : decode cX2_has 0 = .ok (.iload_n 1, 1) := by decide +kernel
theorem dX2_has_1 : decode cX2_has 1 = .ok (.ifCond .lt 24, 3) := by decide +kernel
theorem dX2_has_4 : decode cX2_has 4 = .ok (.iload_n 1, 1) := by decide +kernel
theorem dX2_has_5 : decode cX2_has 5 = .ok (.aload_n 0, 1) := by decide +kernel
theorem dX2_has_6 : decode cX2_has 6 = .ok (.getfield 9, 3) := by decide +kernel
theorem dX2_has_9 : decode cX2_has 9 = .ok (.if_icmp .ge 16, 3) := by decide +kernel
theorem dX2_has_12 : decode cX2_has 12 = .ok (.iload_n 1, 1) := by decide +kernel
theorem dX2_has_13 : decode cX2_has 13 = .ok (.aload_n 0, 1) := by decide +kernel
theorem dX2_has_14 : decode cX2_has 14 = .ok (.getfield 15, 3) := by decide +kernel
theorem dX2_has_17 : decode cX2_has 17 = .ok (.arraylength, 1) := by decide +kernel
theorem dX2_has_18 : decode cX2_has 18 = .ok (.if_icmp .ge 7, 3) := by decide +kernel
theorem dX2_has_21 : decode cX2_has 21 = .ok (.iconst 1, 1) := by decide +kernel
theorem dX2_has_22 : decode cX2_has 22 = .ok (.goto 4, 3) := by decide +kernel
theorem dX2_has_25 : decode cX2_has 25 = .ok (.iconst 0, 1) := by decide +kernel
theorem dX2_has_26 : decode cX2_has 26 = .ok (.ireturn, 1) := by decide +kernel
theorem dX2_longAt_0 : decode cX2_longAt 0 = .ok (.aload_n 0, 1) := by decide +kernel
theorem dX2_longAt_1 : decode cX2_longAt 1 = .ok (.iload_n 1, 1) := by decide +kernel
theorem dX2_longAt_2 : decode cX2_longAt 2 = .ok (.invokevirtual 19, 3) := by decide +kernel
theorem dX2_longAt_5 : decode cX2_longAt 5 = .ok (.ifCond .eq 12, 3) := by decide +kernel
theorem dX2_longAt_8 : decode cX2_longAt 8 = .ok (.aload_n 0, 1) := by decide +kernel
theorem dX2_longAt_9 : decode cX2_longAt 9 = .ok (.getfield 15, 3) := by decide +kernel
theorem dX2_longAt_12 : decode cX2_longAt 12 = .ok (.iload_n 1, 1) := by decide +kernel
theorem dX2_longAt_13 : decode cX2_longAt 13 = .ok (.laload, 1) := by decide +kernel
theorem dX2_longAt_14 : decode cX2_longAt 14 = .ok (.goto 4, 3) := by decide +kernel
theorem dX2_longAt_17 : decode cX2_longAt 17 = .ok (.lconst 0, 1) := by decide +kernel
theorem dX2_longAt_18 : decode cX2_longAt 18 = .ok (.lreturn, 1) := by decide +kernel
theorem dX2_write_0 : decode cX2_write 0 = .ok (.aload_n 0, 1) := by decide +kernel
theorem dX2_write_1 : decode cX2_write 1 = .ok (.iload_n 1, 1) := by decide +kernel
theorem dX2_write_2 : decode cX2_write 2 = .ok (.invokevirtual 19, 3) := by decide +kernel
theorem dX2_write_5 : decode cX2_write 5 = .ok (.ifCond .eq 10, 3) := by decide +kernel
theorem dX2_write_8 : decode cX2_write 8 = .ok (.aload_n 0, 1) := by decide +kernel
theorem dX2_write_9 : decode cX2_write 9 = .ok (.getfield 15, 3) := by decide +kernel
theorem dX2_write_12 : decode cX2_write 12 = .ok (.iload_n 1, 1) := by decide +kernel
theorem dX2_write_13 : decode cX2_write 13 = .ok (.lload_n 2, 1) := by decide +kernel
theorem dX2_write_14 : decode cX2_write 14 = .ok (.lastore, 1) := by decide +kernel
theorem dX2_write_15 : decode cX2_write 15 = .ok (.return_, 1) := by decide +kernel
theorem dX2_becomeZeros_0 : decode cX2_becomeZeros 0 = .ok (.iconst 0, 1) := by decide +kernel
theorem dX2_becomeZeros_1 : decode cX2_becomeZeros 1 = .ok (.istore_n 2, 1) := by decide +kernel
theorem dX2_becomeZeros_2 : decode cX2_becomeZeros 2 = .ok (.iload_n 2, 1) := by decide +kernel
theorem dX2_becomeZeros_3 : decode cX2_becomeZeros 3 = .ok (.aload_n 0, 1) := by decide +kernel
theorem dX2_becomeZeros_4 : decode cX2_becomeZeros 4 = .ok (.getfield 15, 3) := by decide +kernel
theorem dX2_becomeZeros_7 : decode cX2_becomeZeros 7 = .ok (.arraylength, 1) := by decide +kernel
theorem dX2_becomeZeros_8 : decode cX2_becomeZeros 8 = .ok (.if_icmp .ge 16, 3) := by decide +kernel
theorem dX2_becomeZeros_11 : decode cX2_becomeZeros 11 = .ok (.aload_n 0, 1) := by decide +kernel
theorem dX2_becomeZeros_12 : decode cX2_becomeZeros 12 = .ok (.getfield 15, 3) := by decide +kernel
theorem dX2_becomeZeros_15 : decode cX2_becomeZeros 15 = .ok (.iload_n 2, 1) := by decide +kernel
theorem dX2_becomeZeros_16 : decode cX2_becomeZeros 16 = .ok (.lconst 0, 1) := by decide +kernel
theorem dX2_becomeZeros_17 : decode cX2_becomeZeros 17 = .ok (.lastore, 1) := by decide +kernel
theorem dX2_becomeZeros_18 : decode cX2_becomeZeros 18 = .ok (.iinc 2 1, 3) := by decide +kernel
theorem dX2_becomeZeros_21 : decode cX2_becomeZeros 21 = .ok (.goto (-19), 3) := by decide +kernel
theorem dX2_becomeZeros_24 : decode cX2_becomeZeros 24 = .ok (.aload_n 0, 1) := by decide +kernel
theorem dX2_becomeZeros_25 : decode cX2_becomeZeros 25 = .ok (.iload_n 1, 1) := by decide +kernel
theorem dX2_becomeZeros_26 : decode cX2_becomeZeros 26 = .ok (.putfield 9, 3) := by decide +kernel
theorem dX2_becomeZeros_29 : decode cX2_becomeZeros 29 = .ok (.return_, 1) := by decide +kernel
theorem dX3_init_0 : decode cX3_init 0 = .ok (.aload_n 0, 1) := by decide +kernel
theorem dX3_init_1 : decode cX3_init 1 = .ok (.invokespecial 3, 3) := by decide +kernel
theorem dX3_init_4 : decode cX3_init 4 = .ok (.aload_n 0, 1) := by decide +kernel
theorem dX3_init_5 : decode cX3_init 5 = .ok (.bipush 16, 2) := by decide +kernel
theorem dX3_init_7 : decode cX3_init 7 = .ok (.newarray .int, 2) := by decide +kernel
theorem dX3_init_9 : decode cX3_init 9 = .ok (.putfield 9, 3) := by decide +kernel
theorem dX3_init_12 : decode cX3_init 12 = .ok (.aload_n 0, 1) := by decide +kernel
theorem dX3_init_13 : decode cX3_init 13 = .ok (.bipush 16, 2) := by decide +kernel
theorem dX3_init_15 : decode cX3_init 15 = .ok (.newarray .int, 2) := by decide +kernel
theorem dX3_init_17 : decode cX3_init 17 = .ok (.putfield 15, 3) := by decide +kernel
theorem dX3_init_20 : decode cX3_init 20 = .ok (.aload_n 0, 1) := by decide +kernel
theorem dX3_init_21 : decode cX3_init 21 = .ok (.iconst 4, 1) := by decide +kernel
theorem dX3_init_22 : decode cX3_init 22 = .ok (.invokevirtual 18, 3) := by decide +kernel
theorem dX3_init_25 : decode cX3_init 25 = .ok (.pop, 1) := by decide +kernel
theorem dX3_init_26 : decode cX3_init 26 = .ok (.return_, 1) := by decide +kernel
theorem dX3_next_0 : decode cX3_next 0 = .ok (.aload_n 0, 1) := by decide +kernel
theorem dX3_next_1 : decode cX3_next 1 = .ok (.getfield 9, 3) := by decide +kernel
theorem dX3_next_4 : decode cX3_next 4 = .ok (.iload_n 1, 1) := by decide +kernel
theorem dX3_next_5 : decode cX3_next 5 = .ok (.invokestatic 22, 3) := by decide +kernel
theorem dX3_next_8 : decode cX3_next 8 = .ok (.ireturn, 1) := by decide +kernel
theorem dX3_former_0 : decode cX3_former 0 = .ok (.aload_n 0, 1) := by decide +kernel
theorem dX3_former_1 : decode cX3_former 1 = .ok (.getfield 15, 3) := by decide +kernel
theorem dX3_former_4 : decode cX3_former 4 = .ok (.iload_n 1, 1) := by decide +kernel
theorem dX3_former_5 : decode cX3_former 5 = .ok (.invokestatic 22, 3) := by decide +kernel
theorem dX3_former_8 : decode cX3_former 8 = .ok (.ireturn, 1) := by decide +kernel
theorem dX3_join_0 : decode cX3_join 0 = .ok (.aload_n 0, 1) := by decide +kernel
theorem dX3_join_1 : decode cX3_join 1 = .ok (.getfield 9, 3) := by decide +kernel
theorem dX3_join_4 : decode cX3_join 4 = .ok (.iload_n 1, 1) := by decide +kernel
theorem dX3_join_5 : decode cX3_join 5 = .ok (.iload_n 2, 1) := by decide +kernel
theorem dX3_join_6 : decode cX3_join 6 = .ok (.invokestatic 26, 3) := by decide +kernel
theorem dX3_join_9 : decode cX3_join 9 = .ok (.aload_n 0, 1) := by decide +kernel
theorem dX3_join_10 : decode cX3_join 10 = .ok (.getfield 15, 3) := by decide +kernel
theorem dX3_join_13 : decode cX3_join 13 = .ok (.iload_n 2, 1) := by decide +kernel
theorem dX3_join_14 : decode cX3_join 14 = .ok (.iload_n 1, 1) := by decide +kernel
theorem dX3_join_15 : decode cX3_join 15 = .ok (.invokestatic 26, 3) := by decide +kernel
theorem dX3_join_18 : decode cX3_join 18 = .ok (.return_, 1) := by decide +kernel
theorem dX3_becomeWord_0 : decode cX3_becomeWord 0 = .ok (.iconst 0, 1) := by decide +kernel
theorem dX3_becomeWord_1 : decode cX3_becomeWord 1 = .ok (.istore_n 2, 1) := by decide +kernel
theorem dX3_becomeWord_2 : decode cX3_becomeWord 2 = .ok (.iconst 0, 1) := by decide +kernel
theorem dX3_becomeWord_3 : decode cX3_becomeWord 3 = .ok (.istore_n 3, 1) := by decide +kernel
theorem dX3_becomeWord_4 : decode cX3_becomeWord 4 = .ok (.iload_n 3, 1) := by decide +kernel
theorem dX3_becomeWord_5 : decode cX3_becomeWord 5 = .ok (.bipush 16, 2) := by decide +kernel
theorem dX3_becomeWord_7 : decode cX3_becomeWord 7 = .ok (.if_icmp .ge 38, 3) := by decide +kernel
theorem dX3_becomeWord_10 : decode cX3_becomeWord 10 = .ok (.iload_n 1, 1) := by decide +kernel
theorem dX3_becomeWord_11 : decode cX3_becomeWord 11 = .ok (.iload_n 3, 1) := by decide +kernel
theorem dX3_becomeWord_12 : decode cX3_becomeWord 12 = .ok (.invokestatic 30, 3) := by decide +kernel
theorem dX3_becomeWord_15 : decode cX3_becomeWord 15 = .ok (.istore 4, 2) := by decide +kernel
theorem dX3_becomeWord_17 : decode cX3_becomeWord 17 = .ok (.iload 4, 2) := by decide +kernel
theorem dX3_becomeWord_19 : decode cX3_becomeWord 19 = .ok (.aload_n 0, 1) := by decide +kernel
theorem dX3_becomeWord_20 : decode cX3_becomeWord 20 = .ok (.getfield 9, 3) := by decide +kernel
theorem dX3_becomeWord_23 : decode cX3_becomeWord 23 = .ok (.iload_n 3, 1) := by decide +kernel
theorem dX3_becomeWord_24 : decode cX3_becomeWord 24 = .ok (.invokestatic 22, 3) := by decide +kernel
theorem dX3_becomeWord_27 : decode cX3_becomeWord 27 = .ok (.if_icmp .eq 5, 3) := by decide +kernel
theorem dX3_becomeWord_30 : decode cX3_becomeWord 30 = .ok (.iconst 1, 1) := by decide +kernel
theorem dX3_becomeWord_31 : decode cX3_becomeWord 31 = .ok (.istore_n 2, 1) := by decide +kernel
theorem dX3_becomeWord_32 : decode cX3_becomeWord 32 = .ok (.aload_n 0, 1) := by decide +kernel
theorem dX3_becomeWord_33 : decode cX3_becomeWord 33 = .ok (.iload_n 3, 1) := by decide +kernel
theorem dX3_becomeWord_34 : decode cX3_becomeWord 34 = .ok (.iload 4, 2) := by decide +kernel
theorem dX3_becomeWord_36 : decode cX3_becomeWord 36 = .ok (.invokevirtual 34, 3) := by decide +kernel
theorem dX3_becomeWord_39 : decode cX3_becomeWord 39 = .ok (.iinc 3 1, 3) := by decide +kernel
theorem dX3_becomeWord_42 : decode cX3_becomeWord 42 = .ok (.goto (-38), 3) := by decide +kernel
theorem dX3_becomeWord_45 : decode cX3_becomeWord 45 = .ok (.iload_n 2, 1) := by decide +kernel
theorem dX3_becomeWord_46 : decode cX3_becomeWord 46 = .ok (.ireturn, 1) := by decide +kernel
theorem dX3_exchange_0 : decode cX3_exchange 0 = .ok (.aload_n 0, 1) := by decide +kernel
theorem dX3_exchange_1 : decode cX3_exchange 1 = .ok (.iload_n 1, 1) := by decide +kernel
theorem dX3_exchange_2 : decode cX3_exchange 2 = .ok (.invokevirtual 38, 3) := by decide +kernel
theorem dX3_exchange_5 : decode cX3_exchange 5 = .ok (.istore_n 3, 1) := by decide +kernel
theorem dX3_exchange_6 : decode cX3_exchange 6 = .ok (.aload_n 0, 1) := by decide +kernel
theorem dX3_exchange_7 : decode cX3_exchange 7 = .ok (.iload_n 1, 1) := by decide +kernel
theorem dX3_exchange_8 : decode cX3_exchange 8 = .ok (.aload_n 0, 1) := by decide +kernel
theorem dX3_exchange_9 : decode cX3_exchange 9 = .ok (.iload_n 2, 1) := by decide +kernel
theorem dX3_exchange_10 : decode cX3_exchange 10 = .ok (.invokevirtual 38, 3) := by decide +kernel
theorem dX3_exchange_13 : decode cX3_exchange 13 = .ok (.invokevirtual 34, 3) := by decide +kernel
theorem dX3_exchange_16 : decode cX3_exchange 16 = .ok (.aload_n 0, 1) := by decide +kernel
theorem dX3_exchange_17 : decode cX3_exchange 17 = .ok (.iload_n 2, 1) := by decide +kernel
theorem dX3_exchange_18 : decode cX3_exchange 18 = .ok (.iload_n 3, 1) := by decide +kernel
theorem dX3_exchange_19 : decode cX3_exchange 19 = .ok (.invokevirtual 34, 3) := by decide +kernel
theorem dX3_exchange_22 : decode cX3_exchange 22 = .ok (.return_, 1) := by decide +kernel
theorem dX3_copyOf_0 : decode cX3_copyOf 0 = .ok (.aload_n 1, 1) := by decide +kernel
theorem dX3_copyOf_1 : decode cX3_copyOf 1 = .ok (.getfield 9, 3) := by decide +kernel
theorem dX3_copyOf_4 : decode cX3_copyOf 4 = .ok (.aload_n 0, 1) := by decide +kernel
theorem dX3_copyOf_5 : decode cX3_copyOf 5 = .ok (.getfield 9, 3) := by decide +kernel
theorem dX3_copyOf_8 : decode cX3_copyOf 8 = .ok (.invokestatic 42, 3) := by decide +kernel
theorem dX3_copyOf_11 : decode cX3_copyOf 11 = .ok (.aload_n 1, 1) := by decide +kernel
theorem dX3_copyOf_12 : decode cX3_copyOf 12 = .ok (.getfield 15, 3) := by decide +kernel
theorem dX3_copyOf_15 : decode cX3_copyOf 15 = .ok (.aload_n 0, 1) := by decide +kernel
theorem dX3_copyOf_16 : decode cX3_copyOf 16 = .ok (.getfield 15, 3) := by decide +kernel
theorem dX3_copyOf_19 : decode cX3_copyOf 19 = .ok (.invokestatic 42, 3) := by decide +kernel
theorem dX3_copyOf_22 : decode cX3_copyOf 22 = .ok (.return_, 1) := by decide +kernel
theorem dX3_keepsSum_0 : decode cX3_keepsSum 0 = .ok (.iconst 0, 1) := by decide +kernel
theorem dX3_keepsSum_1 : decode cX3_keepsSum 1 = .ok (.istore 5, 2) := by decide +kernel
theorem dX3_keepsSum_3 : decode cX3_keepsSum 3 = .ok (.iload 5, 2) := by decide +kernel
theorem dX3_keepsSum_5 : decode cX3_keepsSum 5 = .ok (.bipush 16, 2) := by decide +kernel
theorem dX3_keepsSum_7 : decode cX3_keepsSum 7 = .ok (.if_icmp .ge 67, 3) := by decide +kernel
theorem dX3_keepsSum_10 : decode cX3_keepsSum 10 = .ok (.aload_n 0, 1) := by decide +kernel
theorem dX3_keepsSum_11 : decode cX3_keepsSum 11 = .ok (.iload 5, 2) := by decide +kernel
theorem dX3_keepsSum_13 : decode cX3_keepsSum 13 = .ok (.invokevirtual 38, 3) := by decide +kernel
theorem dX3_keepsSum_16 : decode cX3_keepsSum 16 = .ok (.istore 6, 2) := by decide +kernel
theorem dX3_keepsSum_18 : decode cX3_keepsSum 18 = .ok (.iload 5, 2) := by decide +kernel
theorem dX3_keepsSum_20 : decode cX3_keepsSum 20 = .ok (.iload_n 1, 1) := by decide +kernel
theorem dX3_keepsSum_21 : decode cX3_keepsSum 21 = .ok (.iload_n 2, 1) := by decide +kernel
theorem dX3_keepsSum_22 : decode cX3_keepsSum 22 = .ok (.iload_n 3, 1) := by decide +kernel
theorem dX3_keepsSum_23 : decode cX3_keepsSum 23 = .ok (.iload 4, 2) := by decide +kernel
theorem dX3_keepsSum_25 : decode cX3_keepsSum 25 = .ok (.invokestatic 46, 3) := by decide +kernel
theorem dX3_keepsSum_28 : decode cX3_keepsSum 28 = .ok (.iload 6, 2) := by decide +kernel
theorem dX3_keepsSum_30 : decode cX3_keepsSum 30 = .ok (.iload_n 1, 1) := by decide +kernel
theorem dX3_keepsSum_31 : decode cX3_keepsSum 31 = .ok (.iload_n 2, 1) := by decide +kernel
theorem dX3_keepsSum_32 : decode cX3_keepsSum 32 = .ok (.iload_n 3, 1) := by decide +kernel
theorem dX3_keepsSum_33 : decode cX3_keepsSum 33 = .ok (.iload 4, 2) := by decide +kernel
theorem dX3_keepsSum_35 : decode cX3_keepsSum 35 = .ok (.invokestatic 46, 3) := by decide +kernel
theorem dX3_keepsSum_38 : decode cX3_keepsSum 38 = .ok (.if_icmp .eq 5, 3) := by decide +kernel
theorem dX3_keepsSum_41 : decode cX3_keepsSum 41 = .ok (.iconst 0, 1) := by decide +kernel
theorem dX3_keepsSum_42 : decode cX3_keepsSum 42 = .ok (.ireturn, 1) := by decide +kernel
theorem dX3_keepsSum_43 : decode cX3_keepsSum 43 = .ok (.iload 5, 2) := by decide +kernel
theorem dX3_keepsSum_45 : decode cX3_keepsSum 45 = .ok (.iload 4, 2) := by decide +kernel
theorem dX3_keepsSum_47 : decode cX3_keepsSum 47 = .ok (.iload_n 3, 1) := by decide +kernel
theorem dX3_keepsSum_48 : decode cX3_keepsSum 48 = .ok (.iload_n 2, 1) := by decide +kernel
theorem dX3_keepsSum_49 : decode cX3_keepsSum 49 = .ok (.iload_n 1, 1) := by decide +kernel
theorem dX3_keepsSum_50 : decode cX3_keepsSum 50 = .ok (.invokestatic 46, 3) := by decide +kernel
theorem dX3_keepsSum_53 : decode cX3_keepsSum 53 = .ok (.iload 6, 2) := by decide +kernel
theorem dX3_keepsSum_55 : decode cX3_keepsSum 55 = .ok (.iload 4, 2) := by decide +kernel
theorem dX3_keepsSum_57 : decode cX3_keepsSum 57 = .ok (.iload_n 3, 1) := by decide +kernel
theorem dX3_keepsSum_58 : decode cX3_keepsSum 58 = .ok (.iload_n 2, 1) := by decide +kernel
theorem dX3_keepsSum_59 : decode cX3_keepsSum 59 = .ok (.iload_n 1, 1) := by decide +kernel
theorem dX3_keepsSum_60 : decode cX3_keepsSum 60 = .ok (.invokestatic 46, 3) := by decide +kernel
theorem dX3_keepsSum_63 : decode cX3_keepsSum 63 = .ok (.if_icmp .eq 5, 3) := by decide +kernel
theorem dX3_keepsSum_66 : decode cX3_keepsSum 66 = .ok (.iconst 0, 1) := by decide +kernel
theorem dX3_keepsSum_67 : decode cX3_keepsSum 67 = .ok (.ireturn, 1) := by decide +kernel
theorem dX3_keepsSum_68 : decode cX3_keepsSum 68 = .ok (.iinc 5 1, 3) := by decide +kernel
theorem dX3_keepsSum_71 : decode cX3_keepsSum 71 = .ok (.goto (-68), 3) := by decide +kernel
theorem dX3_keepsSum_74 : decode cX3_keepsSum 74 = .ok (.iconst 1, 1) := by decide +kernel
theorem dX3_keepsSum_75 : decode cX3_keepsSum 75 = .ok (.ireturn, 1) := by decide +kernel
theorem dX3_weightOf_0 : decode cX3_weightOf 0 = .ok (.iload_n 0, 1) := by decide +kernel
theorem dX3_weightOf_1 : decode cX3_weightOf 1 = .ok (.iconst 1, 1) := by decide +kernel
theorem dX3_weightOf_2 : decode cX3_weightOf 2 = .ok (.iand, 1) := by decide +kernel
theorem dX3_weightOf_3 : decode cX3_weightOf 3 = .ok (.iload_n 1, 1) := by decide +kernel
theorem dX3_weightOf_4 : decode cX3_weightOf 4 = .ok (.imul, 1) := by decide +kernel
theorem dX3_weightOf_5 : decode cX3_weightOf 5 = .ok (.iload_n 0, 1) := by decide +kernel
theorem dX3_weightOf_6 : decode cX3_weightOf 6 = .ok (.iconst 1, 1) := by decide +kernel
theorem dX3_weightOf_7 : decode cX3_weightOf 7 = .ok (.ishr, 1) := by decide +kernel
theorem dX3_weightOf_8 : decode cX3_weightOf 8 = .ok (.iconst 1, 1) := by decide +kernel
theorem dX3_weightOf_9 : decode cX3_weightOf 9 = .ok (.iand, 1) := by decide +kernel
theorem dX3_weightOf_10 : decode cX3_weightOf 10 = .ok (.iload_n 2, 1) := by decide +kernel
theorem dX3_weightOf_11 : decode cX3_weightOf 11 = .ok (.imul, 1) := by decide +kernel
theorem dX3_weightOf_12 : decode cX3_weightOf 12 = .ok (.iadd, 1) := by decide +kernel
theorem dX3_weightOf_13 : decode cX3_weightOf 13 = .ok (.iload_n 0, 1) := by decide +kernel
theorem dX3_weightOf_14 : decode cX3_weightOf 14 = .ok (.iconst 2, 1) := by decide +kernel
theorem dX3_weightOf_15 : decode cX3_weightOf 15 = .ok (.ishr, 1) := by decide +kernel
theorem dX3_weightOf_16 : decode cX3_weightOf 16 = .ok (.iconst 1, 1) := by decide +kernel
theorem dX3_weightOf_17 : decode cX3_weightOf 17 = .ok (.iand, 1) := by decide +kernel
theorem dX3_weightOf_18 : decode cX3_weightOf 18 = .ok (.iload_n 3, 1) := by decide +kernel
theorem dX3_weightOf_19 : decode cX3_weightOf 19 = .ok (.imul, 1) := by decide +kernel
theorem dX3_weightOf_20 : decode cX3_weightOf 20 = .ok (.iadd, 1) := by decide +kernel
theorem dX3_weightOf_21 : decode cX3_weightOf 21 = .ok (.iload_n 0, 1) := by decide +kernel
theorem dX3_weightOf_22 : decode cX3_weightOf 22 = .ok (.iconst 3, 1) := by decide +kernel
theorem dX3_weightOf_23 : decode cX3_weightOf 23 = .ok (.ishr, 1) := by decide +kernel
theorem dX3_weightOf_24 : decode cX3_weightOf 24 = .ok (.iconst 1, 1) := by decide +kernel
theorem dX3_weightOf_25 : decode cX3_weightOf 25 = .ok (.iand, 1) := by decide +kernel
theorem dX3_weightOf_26 : decode cX3_weightOf 26 = .ok (.iload 4, 2) := by decide +kernel
theorem dX3_weightOf_28 : decode cX3_weightOf 28 = .ok (.imul, 1) := by decide +kernel
theorem dX3_weightOf_29 : decode cX3_weightOf 29 = .ok (.iadd, 1) := by decide +kernel
theorem dX3_weightOf_30 : decode cX3_weightOf 30 = .ok (.ireturn, 1) := by decide +kernel
theorem dX3_byWord_0 : decode cX3_byWord 0 = .ok (.iload_n 0, 1) := by decide +kernel
theorem dX3_byWord_1 : decode cX3_byWord 1 = .ok (.tableswitch 91 1 4 #[31, 56, 81, 86], 31) := by decide +kernel
theorem dX3_byWord_32 : decode cX3_byWord 32 = .ok (.iload_n 1, 1) := by decide +kernel
theorem dX3_byWord_33 : decode cX3_byWord 33 = .ok (.iconst 1, 1) := by decide +kernel
theorem dX3_byWord_34 : decode cX3_byWord 34 = .ok (.iand, 1) := by decide +kernel
theorem dX3_byWord_35 : decode cX3_byWord 35 = .ok (.iconst 1, 1) := by decide +kernel
theorem dX3_byWord_36 : decode cX3_byWord 36 = .ok (.ishl, 1) := by decide +kernel
theorem dX3_byWord_37 : decode cX3_byWord 37 = .ok (.iload_n 1, 1) := by decide +kernel
theorem dX3_byWord_38 : decode cX3_byWord 38 = .ok (.iconst 2, 1) := by decide +kernel
theorem dX3_byWord_39 : decode cX3_byWord 39 = .ok (.iand, 1) := by decide +kernel
theorem dX3_byWord_40 : decode cX3_byWord 40 = .ok (.iconst 2, 1) := by decide +kernel
theorem dX3_byWord_41 : decode cX3_byWord 41 = .ok (.ishl, 1) := by decide +kernel
theorem dX3_byWord_42 : decode cX3_byWord 42 = .ok (.ior, 1) := by decide +kernel
theorem dX3_byWord_43 : decode cX3_byWord 43 = .ok (.iload_n 1, 1) := by decide +kernel
theorem dX3_byWord_44 : decode cX3_byWord 44 = .ok (.iconst 4, 1) := by decide +kernel
theorem dX3_byWord_45 : decode cX3_byWord 45 = .ok (.iand, 1) := by decide +kernel
theorem dX3_byWord_46 : decode cX3_byWord 46 = .ok (.iconst 2, 1) := by decide +kernel
theorem dX3_byWord_47 : decode cX3_byWord 47 = .ok (.ishr, 1) := by decide +kernel
theorem dX3_byWord_48 : decode cX3_byWord 48 = .ok (.ior, 1) := by decide +kernel
theorem dX3_byWord_49 : decode cX3_byWord 49 = .ok (.iload_n 1, 1) := by decide +kernel
theorem dX3_byWord_50 : decode cX3_byWord 50 = .ok (.bipush 8, 2) := by decide +kernel
theorem dX3_byWord_52 : decode cX3_byWord 52 = .ok (.iand, 1) := by decide +kernel
theorem dX3_byWord_53 : decode cX3_byWord 53 = .ok (.iconst 1, 1) := by decide +kernel
theorem dX3_byWord_54 : decode cX3_byWord 54 = .ok (.ishr, 1) := by decide +kernel
theorem dX3_byWord_55 : decode cX3_byWord 55 = .ok (.ior, 1) := by decide +kernel
theorem dX3_byWord_56 : decode cX3_byWord 56 = .ok (.ireturn, 1) := by decide +kernel
theorem dX3_byWord_57 : decode cX3_byWord 57 = .ok (.iload_n 1, 1) := by decide +kernel
theorem dX3_byWord_58 : decode cX3_byWord 58 = .ok (.iconst 1, 1) := by decide +kernel
theorem dX3_byWord_59 : decode cX3_byWord 59 = .ok (.iand, 1) := by decide +kernel
theorem dX3_byWord_60 : decode cX3_byWord 60 = .ok (.iconst 2, 1) := by decide +kernel
theorem dX3_byWord_61 : decode cX3_byWord 61 = .ok (.ishl, 1) := by decide +kernel
theorem dX3_byWord_62 : decode cX3_byWord 62 = .ok (.iload_n 1, 1) := by decide +kernel
theorem dX3_byWord_63 : decode cX3_byWord 63 = .ok (.iconst 2, 1) := by decide +kernel
theorem dX3_byWord_64 : decode cX3_byWord 64 = .ok (.iand, 1) := by decide +kernel
theorem dX3_byWord_65 : decode cX3_byWord 65 = .ok (.iconst 1, 1) := by decide +kernel
theorem dX3_byWord_66 : decode cX3_byWord 66 = .ok (.ishr, 1) := by decide +kernel
theorem dX3_byWord_67 : decode cX3_byWord 67 = .ok (.ior, 1) := by decide +kernel
theorem dX3_byWord_68 : decode cX3_byWord 68 = .ok (.iload_n 1, 1) := by decide +kernel
theorem dX3_byWord_69 : decode cX3_byWord 69 = .ok (.iconst 4, 1) := by decide +kernel
theorem dX3_byWord_70 : decode cX3_byWord 70 = .ok (.iand, 1) := by decide +kernel
theorem dX3_byWord_71 : decode cX3_byWord 71 = .ok (.iconst 1, 1) := by decide +kernel
theorem dX3_byWord_72 : decode cX3_byWord 72 = .ok (.ishl, 1) := by decide +kernel
theorem dX3_byWord_73 : decode cX3_byWord 73 = .ok (.ior, 1) := by decide +kernel
theorem dX3_byWord_74 : decode cX3_byWord 74 = .ok (.iload_n 1, 1) := by decide +kernel
theorem dX3_byWord_75 : decode cX3_byWord 75 = .ok (.bipush 8, 2) := by decide +kernel
theorem dX3_byWord_77 : decode cX3_byWord 77 = .ok (.iand, 1) := by decide +kernel
theorem dX3_byWord_78 : decode cX3_byWord 78 = .ok (.iconst 2, 1) := by decide +kernel
theorem dX3_byWord_79 : decode cX3_byWord 79 = .ok (.ishr, 1) := by decide +kernel
theorem dX3_byWord_80 : decode cX3_byWord 80 = .ok (.ior, 1) := by decide +kernel
theorem dX3_byWord_81 : decode cX3_byWord 81 = .ok (.ireturn, 1) := by decide +kernel
theorem dX3_byWord_82 : decode cX3_byWord 82 = .ok (.iload_n 1, 1) := by decide +kernel
theorem dX3_byWord_83 : decode cX3_byWord 83 = .ok (.bipush 15, 2) := by decide +kernel
theorem dX3_byWord_85 : decode cX3_byWord 85 = .ok (.ixor, 1) := by decide +kernel
theorem dX3_byWord_86 : decode cX3_byWord 86 = .ok (.ireturn, 1) := by decide +kernel
theorem dX3_byWord_87 : decode cX3_byWord 87 = .ok (.iload_n 1, 1) := by decide +kernel
theorem dX3_byWord_88 : decode cX3_byWord 88 = .ok (.invokestatic 50, 3) := by decide +kernel
theorem dX3_byWord_91 : decode cX3_byWord 91 = .ok (.ireturn, 1) := by decide +kernel
theorem dX3_byWord_92 : decode cX3_byWord 92 = .ok (.iload_n 1, 1) := by decide +kernel
theorem dX3_byWord_93 : decode cX3_byWord 93 = .ok (.ireturn, 1) := by decide +kernel
theorem dX3_byBall_0 : decode cX3_byBall 0 = .ok (.iload_n 0, 1) := by decide +kernel
theorem dX3_byBall_1 : decode cX3_byBall 1 = .ok (.tableswitch 66 1 9 #[51, 54, 66, 56, 66, 58, 66, 61, 63], 51) := by decide +kernel
theorem dX3_byBall_52 : decode cX3_byBall 52 = .ok (.bipush 8, 2) := by decide +kernel
theorem dX3_byBall_54 : decode cX3_byBall 54 = .ok (.ireturn, 1) := by decide +kernel
theorem dX3_byBall_55 : decode cX3_byBall 55 = .ok (.iconst 4, 1) := by decide +kernel
theorem dX3_byBall_56 : decode cX3_byBall 56 = .ok (.ireturn, 1) := by decide +kernel
theorem dX3_byBall_57 : decode cX3_byBall 57 = .ok (.iconst 2, 1) := by decide +kernel
theorem dX3_byBall_58 : decode cX3_byBall 58 = .ok (.ireturn, 1) := by decide +kernel
theorem dX3_byBall_59 : decode cX3_byBall 59 = .ok (.bipush 9, 2) := by decide +kernel
theorem dX3_byBall_61 : decode cX3_byBall 61 = .ok (.ireturn, 1) := by decide +kernel
theorem dX3_byBall_62 : decode cX3_byBall 62 = .ok (.iconst 1, 1) := by decide +kernel
theorem dX3_byBall_63 : decode cX3_byBall 63 = .ok (.ireturn, 1) := by decide +kernel
theorem dX3_byBall_64 : decode cX3_byBall 64 = .ok (.bipush 6, 2) := by decide +kernel
theorem dX3_byBall_66 : decode cX3_byBall 66 = .ok (.ireturn, 1) := by decide +kernel
theorem dX3_byBall_67 : decode cX3_byBall 67 = .ok (.iload_n 0, 1) := by decide +kernel
theorem dX3_byBall_68 : decode cX3_byBall 68 = .ok (.ireturn, 1) := by decide +kernel
theorem dX4_init_0 : decode cX4_init 0 = .ok (.aload_n 0, 1) := by decide +kernel
theorem dX4_init_1 : decode cX4_init 1 = .ok (.invokespecial 1, 3) := by decide +kernel
theorem dX4_init_4 : decode cX4_init 4 = .ok (.aload_n 0, 1) := by decide +kernel
theorem dX4_init_5 : decode cX4_init 5 = .ok (.iconst 0, 1) := by decide +kernel
theorem dX4_init_6 : decode cX4_init 6 = .ok (.putfield 7, 3) := by decide +kernel
theorem dX4_init_9 : decode cX4_init 9 = .ok (.aload_n 0, 1) := by decide +kernel
theorem dX4_init_10 : decode cX4_init 10 = .ok (.iconst 3, 1) := by decide +kernel
theorem dX4_init_11 : decode cX4_init 11 = .ok (.iload_n 1, 1) := by decide +kernel
theorem dX4_init_12 : decode cX4_init 12 = .ok (.iconst 0, 1) := by decide +kernel
theorem dX4_init_13 : decode cX4_init 13 = .ok (.invokestatic 13, 3) := by decide +kernel
theorem dX4_init_16 : decode cX4_init 16 = .ok (.imul, 1) := by decide +kernel
theorem dX4_init_17 : decode cX4_init 17 = .ok (.newarray .int, 2) := by decide +kernel
theorem dX4_init_19 : decode cX4_init 19 = .ok (.putfield 19, 3) := by decide +kernel
theorem dX4_init_22 : decode cX4_init 22 = .ok (.return_, 1) := by decide +kernel
theorem dX4_isFull_0 : decode cX4_isFull 0 = .ok (.iconst 3, 1) := by decide +kernel
theorem dX4_isFull_1 : decode cX4_isFull 1 = .ok (.aload_n 0, 1) := by decide +kernel
theorem dX4_isFull_2 : decode cX4_isFull 2 = .ok (.getfield 7, 3) := by decide +kernel
theorem dX4_isFull_5 : decode cX4_isFull 5 = .ok (.imul, 1) := by decide +kernel
theorem dX4_isFull_6 : decode cX4_isFull 6 = .ok (.aload_n 0, 1) := by decide +kernel
theorem dX4_isFull_7 : decode cX4_isFull 7 = .ok (.getfield 19, 3) := by decide +kernel
theorem dX4_isFull_10 : decode cX4_isFull 10 = .ok (.arraylength, 1) := by decide +kernel
theorem dX4_isFull_11 : decode cX4_isFull 11 = .ok (.if_icmp .lt 7, 3) := by decide +kernel
theorem dX4_isFull_14 : decode cX4_isFull 14 = .ok (.iconst 1, 1) := by decide +kernel
theorem dX4_isFull_15 : decode cX4_isFull 15 = .ok (.goto 4, 3) := by decide +kernel
theorem dX4_isFull_18 : decode cX4_isFull 18 = .ok (.iconst 0, 1) := by decide +kernel
theorem dX4_isFull_19 : decode cX4_isFull 19 = .ok (.ireturn, 1) := by decide +kernel
theorem dX4_add_0 : decode cX4_add 0 = .ok (.aload_n 0, 1) := by decide +kernel
theorem dX4_add_1 : decode cX4_add 1 = .ok (.invokevirtual 23, 3) := by decide +kernel
theorem dX4_add_4 : decode cX4_add 4 = .ok (.ifCond .eq 4, 3) := by decide +kernel
theorem dX4_add_7 : decode cX4_add 7 = .ok (.return_, 1) := by decide +kernel
theorem dX4_add_8 : decode cX4_add 8 = .ok (.aload_n 0, 1) := by decide +kernel
theorem dX4_add_9 : decode cX4_add 9 = .ok (.getfield 19, 3) := by decide +kernel
theorem dX4_add_12 : decode cX4_add 12 = .ok (.iconst 3, 1) := by decide +kernel
theorem dX4_add_13 : decode cX4_add 13 = .ok (.aload_n 0, 1) := by decide +kernel
theorem dX4_add_14 : decode cX4_add 14 = .ok (.getfield 7, 3) := by decide +kernel
theorem dX4_add_17 : decode cX4_add 17 = .ok (.imul, 1) := by decide +kernel
theorem dX4_add_18 : decode cX4_add 18 = .ok (.iload_n 1, 1) := by decide +kernel
theorem dX4_add_19 : decode cX4_add 19 = .ok (.invokestatic 27, 3) := by decide +kernel
theorem dX4_add_22 : decode cX4_add 22 = .ok (.aload_n 0, 1) := by decide +kernel
theorem dX4_add_23 : decode cX4_add 23 = .ok (.getfield 19, 3) := by decide +kernel
theorem dX4_add_26 : decode cX4_add 26 = .ok (.iconst 3, 1) := by decide +kernel
theorem dX4_add_27 : decode cX4_add 27 = .ok (.aload_n 0, 1) := by decide +kernel
theorem dX4_add_28 : decode cX4_add 28 = .ok (.getfield 7, 3) := by decide +kernel
theorem dX4_add_31 : decode cX4_add 31 = .ok (.imul, 1) := by decide +kernel
theorem dX4_add_32 : decode cX4_add 32 = .ok (.iconst 1, 1) := by decide +kernel
theorem dX4_add_33 : decode cX4_add 33 = .ok (.iadd, 1) := by decide +kernel
theorem dX4_add_34 : decode cX4_add 34 = .ok (.iload_n 2, 1) := by decide +kernel
theorem dX4_add_35 : decode cX4_add 35 = .ok (.invokestatic 27, 3) := by decide +kernel
theorem dX4_add_38 : decode cX4_add 38 = .ok (.aload_n 0, 1) := by decide +kernel
theorem dX4_add_39 : decode cX4_add 39 = .ok (.getfield 19, 3) := by decide +kernel
theorem dX4_add_42 : decode cX4_add 42 = .ok (.iconst 3, 1) := by decide +kernel
theorem dX4_add_43 : decode cX4_add 43 = .ok (.aload_n 0, 1) := by decide +kernel
theorem dX4_add_44 : decode cX4_add 44 = .ok (.getfield 7, 3) := by decide +kernel
theorem dX4_add_47 : decode cX4_add 47 = .ok (.imul, 1) := by decide +kernel
theorem dX4_add_48 : decode cX4_add 48 = .ok (.iconst 2, 1) := by decide +kernel
theorem dX4_add_49 : decode cX4_add 49 = .ok (.iadd, 1) := by decide +kernel
theorem dX4_add_50 : decode cX4_add 50 = .ok (.iload_n 3, 1) := by decide +kernel
theorem dX4_add_51 : decode cX4_add 51 = .ok (.invokestatic 27, 3) := by decide +kernel
theorem dX4_add_54 : decode cX4_add 54 = .ok (.aload_n 0, 1) := by decide +kernel
theorem dX4_add_55 : decode cX4_add 55 = .ok (.dup, 1) := by decide +kernel
theorem dX4_add_56 : decode cX4_add 56 = .ok (.getfield 7, 3) := by decide +kernel
theorem dX4_add_59 : decode cX4_add 59 = .ok (.iconst 1, 1) := by decide +kernel
theorem dX4_add_60 : decode cX4_add 60 = .ok (.iadd, 1) := by decide +kernel
theorem dX4_add_61 : decode cX4_add 61 = .ok (.putfield 7, 3) := by decide +kernel
theorem dX4_add_64 : decode cX4_add 64 = .ok (.return_, 1) := by decide +kernel
theorem dX4_first_0 : decode cX4_first 0 = .ok (.aload_n 0, 1) := by decide +kernel
theorem dX4_first_1 : decode cX4_first 1 = .ok (.getfield 19, 3) := by decide +kernel
theorem dX4_first_4 : decode cX4_first 4 = .ok (.iconst 3, 1) := by decide +kernel
theorem dX4_first_5 : decode cX4_first 5 = .ok (.iload_n 1, 1) := by decide +kernel
theorem dX4_first_6 : decode cX4_first 6 = .ok (.imul, 1) := by decide +kernel
theorem dX4_first_7 : decode cX4_first 7 = .ok (.invokestatic 33, 3) := by decide +kernel
theorem dX4_first_10 : decode cX4_first 10 = .ok (.ireturn, 1) := by decide +kernel
theorem dX4_second_0 : decode cX4_second 0 = .ok (.aload_n 0, 1) := by decide +kernel
theorem dX4_second_1 : decode cX4_second 1 = .ok (.getfield 19, 3) := by decide +kernel
theorem dX4_second_4 : decode cX4_second 4 = .ok (.iconst 3, 1) := by decide +kernel
theorem dX4_second_5 : decode cX4_second 5 = .ok (.iload_n 1, 1) := by decide +kernel
theorem dX4_second_6 : decode cX4_second 6 = .ok (.imul, 1) := by decide +kernel
theorem dX4_second_7 : decode cX4_second 7 = .ok (.iconst 1, 1) := by decide +kernel
theorem dX4_second_8 : decode cX4_second 8 = .ok (.iadd, 1) := by decide +kernel
theorem dX4_second_9 : decode cX4_second 9 = .ok (.invokestatic 33, 3) := by decide +kernel
theorem dX4_second_12 : decode cX4_second 12 = .ok (.ireturn, 1) := by decide +kernel
theorem dX4_third_0 : decode cX4_third 0 = .ok (.aload_n 0, 1) := by decide +kernel
theorem dX4_third_1 : decode cX4_third 1 = .ok (.getfield 19, 3) := by decide +kernel
theorem dX4_third_4 : decode cX4_third 4 = .ok (.iconst 3, 1) := by decide +kernel
theorem dX4_third_5 : decode cX4_third 5 = .ok (.iload_n 1, 1) := by decide +kernel
theorem dX4_third_6 : decode cX4_third 6 = .ok (.imul, 1) := by decide +kernel
theorem dX4_third_7 : decode cX4_third 7 = .ok (.iconst 2, 1) := by decide +kernel
theorem dX4_third_8 : decode cX4_third 8 = .ok (.iadd, 1) := by decide +kernel
theorem dX4_third_9 : decode cX4_third 9 = .ok (.invokestatic 33, 3) := by decide +kernel
theorem dX4_third_12 : decode cX4_third 12 = .ok (.ireturn, 1) := by decide +kernel
theorem dX4_dropLatest_0 : decode cX4_dropLatest 0 = .ok (.aload_n 0, 1) := by decide +kernel
theorem dX4_dropLatest_1 : decode cX4_dropLatest 1 = .ok (.getfield 7, 3) := by decide +kernel
theorem dX4_dropLatest_4 : decode cX4_dropLatest 4 = .ok (.ifCond .le 13, 3) := by decide +kernel
theorem dX4_dropLatest_7 : decode cX4_dropLatest 7 = .ok (.aload_n 0, 1) := by decide +kernel
theorem dX4_dropLatest_8 : decode cX4_dropLatest 8 = .ok (.dup, 1) := by decide +kernel
theorem dX4_dropLatest_9 : decode cX4_dropLatest 9 = .ok (.getfield 7, 3) := by decide +kernel
theorem dX4_dropLatest_12 : decode cX4_dropLatest 12 = .ok (.iconst 1, 1) := by decide +kernel
theorem dX4_dropLatest_13 : decode cX4_dropLatest 13 = .ok (.isub, 1) := by decide +kernel
theorem dX4_dropLatest_14 : decode cX4_dropLatest 14 = .ok (.putfield 7, 3) := by decide +kernel
theorem dX4_dropLatest_17 : decode cX4_dropLatest 17 = .ok (.return_, 1) := by decide +kernel
theorem dX4_dropEldest_0 : decode cX4_dropEldest 0 = .ok (.iconst 3, 1) := by decide +kernel
theorem dX4_dropEldest_1 : decode cX4_dropEldest 1 = .ok (.istore_n 1, 1) := by decide +kernel
theorem dX4_dropEldest_2 : decode cX4_dropEldest 2 = .ok (.iload_n 1, 1) := by decide +kernel
theorem dX4_dropEldest_3 : decode cX4_dropEldest 3 = .ok (.aload_n 0, 1) := by decide +kernel
theorem dX4_dropEldest_4 : decode cX4_dropEldest 4 = .ok (.getfield 19, 3) := by decide +kernel
theorem dX4_dropEldest_7 : decode cX4_dropEldest 7 = .ok (.arraylength, 1) := by decide +kernel
theorem dX4_dropEldest_8 : decode cX4_dropEldest 8 = .ok (.if_icmp .ge 23, 3) := by decide +kernel
theorem dX4_dropEldest_11 : decode cX4_dropEldest 11 = .ok (.aload_n 0, 1) := by decide +kernel
theorem dX4_dropEldest_12 : decode cX4_dropEldest 12 = .ok (.getfield 19, 3) := by decide +kernel
theorem dX4_dropEldest_15 : decode cX4_dropEldest 15 = .ok (.iload_n 1, 1) := by decide +kernel
theorem dX4_dropEldest_16 : decode cX4_dropEldest 16 = .ok (.iconst 3, 1) := by decide +kernel
theorem dX4_dropEldest_17 : decode cX4_dropEldest 17 = .ok (.isub, 1) := by decide +kernel
theorem dX4_dropEldest_18 : decode cX4_dropEldest 18 = .ok (.aload_n 0, 1) := by decide +kernel
theorem dX4_dropEldest_19 : decode cX4_dropEldest 19 = .ok (.getfield 19, 3) := by decide +kernel
theorem dX4_dropEldest_22 : decode cX4_dropEldest 22 = .ok (.iload_n 1, 1) := by decide +kernel
theorem dX4_dropEldest_23 : decode cX4_dropEldest 23 = .ok (.iaload, 1) := by decide +kernel
theorem dX4_dropEldest_24 : decode cX4_dropEldest 24 = .ok (.iastore, 1) := by decide +kernel
theorem dX4_dropEldest_25 : decode cX4_dropEldest 25 = .ok (.iinc 1 1, 3) := by decide +kernel
theorem dX4_dropEldest_28 : decode cX4_dropEldest 28 = .ok (.goto (-26), 3) := by decide +kernel
theorem dX4_dropEldest_31 : decode cX4_dropEldest 31 = .ok (.aload_n 0, 1) := by decide +kernel
theorem dX4_dropEldest_32 : decode cX4_dropEldest 32 = .ok (.invokevirtual 37, 3) := by decide +kernel
theorem dX4_dropEldest_35 : decode cX4_dropEldest 35 = .ok (.return_, 1) := by decide +kernel
theorem dX4_empty_0 : decode cX4_empty 0 = .ok (.aload_n 0, 1) := by decide +kernel
theorem dX4_empty_1 : decode cX4_empty 1 = .ok (.iconst 0, 1) := by decide +kernel
theorem dX4_empty_2 : decode cX4_empty 2 = .ok (.putfield 7, 3) := by decide +kernel
theorem dX4_empty_5 : decode cX4_empty 5 = .ok (.return_, 1) := by decide +kernel
theorem dX4_copyOf_0 : decode cX4_copyOf 0 = .ok (.aload_n 1, 1) := by decide +kernel
theorem dX4_copyOf_1 : decode cX4_copyOf 1 = .ok (.getfield 19, 3) := by decide +kernel
theorem dX4_copyOf_4 : decode cX4_copyOf 4 = .ok (.aload_n 0, 1) := by decide +kernel
theorem dX4_copyOf_5 : decode cX4_copyOf 5 = .ok (.getfield 19, 3) := by decide +kernel
theorem dX4_copyOf_8 : decode cX4_copyOf 8 = .ok (.invokestatic 40, 3) := by decide +kernel
theorem dX4_copyOf_11 : decode cX4_copyOf 11 = .ok (.aload_n 0, 1) := by decide +kernel
theorem dX4_copyOf_12 : decode cX4_copyOf 12 = .ok (.aload_n 1, 1) := by decide +kernel
theorem dX4_copyOf_13 : decode cX4_copyOf 13 = .ok (.getfield 7, 3) := by decide +kernel
theorem dX4_copyOf_16 : decode cX4_copyOf 16 = .ok (.putfield 7, 3) := by decide +kernel
theorem dX4_copyOf_19 : decode cX4_copyOf 19 = .ok (.return_, 1) := by decide +kernel
theorem dX5_init_0 : decode cX5_init 0 = .ok (.aload_n 0, 1) := by decide +kernel
theorem dX5_init_1 : decode cX5_init 1 = .ok (.invokespecial 3, 3) := by decide +kernel
theorem dX5_init_4 : decode cX5_init 4 = .ok (.aload_n 0, 1) := by decide +kernel
theorem dX5_init_5 : decode cX5_init 5 = .ok (.iconst 0, 1) := by decide +kernel
theorem dX5_init_6 : decode cX5_init 6 = .ok (.putfield 9, 3) := by decide +kernel
theorem dX5_init_9 : decode cX5_init 9 = .ok (.aload_n 0, 1) := by decide +kernel
theorem dX5_init_10 : decode cX5_init 10 = .ok (.iload_n 1, 1) := by decide +kernel
theorem dX5_init_11 : decode cX5_init 11 = .ok (.iconst 0, 1) := by decide +kernel
theorem dX5_init_12 : decode cX5_init 12 = .ok (.invokestatic 15, 3) := by decide +kernel
theorem dX5_init_15 : decode cX5_init 15 = .ok (.newarray .int, 2) := by decide +kernel
theorem dX5_init_17 : decode cX5_init 17 = .ok (.putfield 21, 3) := by decide +kernel
theorem dX5_init_20 : decode cX5_init 20 = .ok (.return_, 1) := by decide +kernel
theorem dX5_isFull_0 : decode cX5_isFull 0 = .ok (.aload_n 0, 1) := by decide +kernel
theorem dX5_isFull_1 : decode cX5_isFull 1 = .ok (.getfield 9, 3) := by decide +kernel
theorem dX5_isFull_4 : decode cX5_isFull 4 = .ok (.aload_n 0, 1) := by decide +kernel
theorem dX5_isFull_5 : decode cX5_isFull 5 = .ok (.getfield 21, 3) := by decide +kernel
theorem dX5_isFull_8 : decode cX5_isFull 8 = .ok (.arraylength, 1) := by decide +kernel
theorem dX5_isFull_9 : decode cX5_isFull 9 = .ok (.if_icmp .lt 7, 3) := by decide +kernel
theorem dX5_isFull_12 : decode cX5_isFull 12 = .ok (.iconst 1, 1) := by decide +kernel
theorem dX5_isFull_13 : decode cX5_isFull 13 = .ok (.goto 4, 3) := by decide +kernel
theorem dX5_isFull_16 : decode cX5_isFull 16 = .ok (.iconst 0, 1) := by decide +kernel
theorem dX5_isFull_17 : decode cX5_isFull 17 = .ok (.ireturn, 1) := by decide +kernel
theorem dX5_add_0 : decode cX5_add 0 = .ok (.aload_n 0, 1) := by decide +kernel
theorem dX5_add_1 : decode cX5_add 1 = .ok (.invokevirtual 25, 3) := by decide +kernel
theorem dX5_add_4 : decode cX5_add 4 = .ok (.ifCond .eq 4, 3) := by decide +kernel
theorem dX5_add_7 : decode cX5_add 7 = .ok (.return_, 1) := by decide +kernel
theorem dX5_add_8 : decode cX5_add 8 = .ok (.aload_n 0, 1) := by decide +kernel
theorem dX5_add_9 : decode cX5_add 9 = .ok (.getfield 21, 3) := by decide +kernel
theorem dX5_add_12 : decode cX5_add 12 = .ok (.aload_n 0, 1) := by decide +kernel
theorem dX5_add_13 : decode cX5_add 13 = .ok (.getfield 9, 3) := by decide +kernel
theorem dX5_add_16 : decode cX5_add 16 = .ok (.iload_n 1, 1) := by decide +kernel
theorem dX5_add_17 : decode cX5_add 17 = .ok (.invokestatic 29, 3) := by decide +kernel
theorem dX5_add_20 : decode cX5_add 20 = .ok (.aload_n 0, 1) := by decide +kernel
theorem dX5_add_21 : decode cX5_add 21 = .ok (.dup, 1) := by decide +kernel
theorem dX5_add_22 : decode cX5_add 22 = .ok (.getfield 9, 3) := by decide +kernel
theorem dX5_add_25 : decode cX5_add 25 = .ok (.iconst 1, 1) := by decide +kernel
theorem dX5_add_26 : decode cX5_add 26 = .ok (.iadd, 1) := by decide +kernel
theorem dX5_add_27 : decode cX5_add 27 = .ok (.putfield 9, 3) := by decide +kernel
theorem dX5_add_30 : decode cX5_add 30 = .ok (.return_, 1) := by decide +kernel
theorem dX5_byteAt_0 : decode cX5_byteAt 0 = .ok (.aload_n 0, 1) := by decide +kernel
theorem dX5_byteAt_1 : decode cX5_byteAt 1 = .ok (.getfield 21, 3) := by decide +kernel
theorem dX5_byteAt_4 : decode cX5_byteAt 4 = .ok (.iload_n 1, 1) := by decide +kernel
theorem dX5_byteAt_5 : decode cX5_byteAt 5 = .ok (.invokestatic 33, 3) := by decide +kernel
theorem dX5_byteAt_8 : decode cX5_byteAt 8 = .ok (.ireturn, 1) := by decide +kernel
theorem dX5_empty_0 : decode cX5_empty 0 = .ok (.aload_n 0, 1) := by decide +kernel
theorem dX5_empty_1 : decode cX5_empty 1 = .ok (.iconst 0, 1) := by decide +kernel
theorem dX5_empty_2 : decode cX5_empty 2 = .ok (.putfield 9, 3) := by decide +kernel
theorem dX5_empty_5 : decode cX5_empty 5 = .ok (.return_, 1) := by decide +kernel
theorem dX5_faultPlace_0 : decode cX5_faultPlace 0 = .ok (.iconst 1, 1) := by decide +kernel
theorem dX5_faultPlace_1 : decode cX5_faultPlace 1 = .ok (.istore_n 1, 1) := by decide +kernel
theorem dX5_faultPlace_2 : decode cX5_faultPlace 2 = .ok (.bipush 16, 2) := by decide +kernel
theorem dX5_faultPlace_4 : decode cX5_faultPlace 4 = .ok (.istore_n 2, 1) := by decide +kernel
theorem dX5_faultPlace_5 : decode cX5_faultPlace 5 = .ok (.iconst 0, 1) := by decide +kernel
theorem dX5_faultPlace_6 : decode cX5_faultPlace 6 = .ok (.istore_n 3, 1) := by decide +kernel
theorem dX5_faultPlace_7 : decode cX5_faultPlace 7 = .ok (.iconst 0, 1) := by decide +kernel
theorem dX5_faultPlace_8 : decode cX5_faultPlace 8 = .ok (.istore 4, 2) := by decide +kernel
theorem dX5_faultPlace_10 : decode cX5_faultPlace 10 = .ok (.iconst 0, 1) := by decide +kernel
theorem dX5_faultPlace_11 : decode cX5_faultPlace 11 = .ok (.istore 5, 2) := by decide +kernel
theorem dX5_faultPlace_13 : decode cX5_faultPlace 13 = .ok (.iload 5, 2) := by decide +kernel
theorem dX5_faultPlace_15 : decode cX5_faultPlace 15 = .ok (.aload_n 0, 1) := by decide +kernel
theorem dX5_faultPlace_16 : decode cX5_faultPlace 16 = .ok (.getfield 9, 3) := by decide +kernel
theorem dX5_faultPlace_19 : decode cX5_faultPlace 19 = .ok (.if_icmp .ge 80, 3) := by decide +kernel
theorem dX5_faultPlace_22 : decode cX5_faultPlace 22 = .ok (.aload_n 0, 1) := by decide +kernel
theorem dX5_faultPlace_23 : decode cX5_faultPlace 23 = .ok (.iload 5, 2) := by decide +kernel
theorem dX5_faultPlace_25 : decode cX5_faultPlace 25 = .ok (.invokevirtual 37, 3) := by decide +kernel
theorem dX5_faultPlace_28 : decode cX5_faultPlace 28 = .ok (.istore 6, 2) := by decide +kernel
theorem dX5_faultPlace_30 : decode cX5_faultPlace 30 = .ok (.iload 6, 2) := by decide +kernel
theorem dX5_faultPlace_32 : decode cX5_faultPlace 32 = .ok (.bipush 47, 2) := by decide +kernel
theorem dX5_faultPlace_34 : decode cX5_faultPlace 34 = .ok (.if_icmp .ne 33, 3) := by decide +kernel
theorem dX5_faultPlace_37 : decode cX5_faultPlace 37 = .ok (.iload 4, 2) := by decide +kernel
theorem dX5_faultPlace_39 : decode cX5_faultPlace 39 = .ok (.iload_n 1, 1) := by decide +kernel
theorem dX5_faultPlace_40 : decode cX5_faultPlace 40 = .ok (.if_icmp .lt 9, 3) := by decide +kernel
theorem dX5_faultPlace_43 : decode cX5_faultPlace 43 = .ok (.iload_n 3, 1) := by decide +kernel
theorem dX5_faultPlace_44 : decode cX5_faultPlace 44 = .ok (.bipush 15, 2) := by decide +kernel
theorem dX5_faultPlace_46 : decode cX5_faultPlace 46 = .ok (.if_icmp .ne 6, 3) := by decide +kernel
theorem dX5_faultPlace_49 : decode cX5_faultPlace 49 = .ok (.iload 5, 2) := by decide +kernel
theorem dX5_faultPlace_51 : decode cX5_faultPlace 51 = .ok (.ireturn, 1) := by decide +kernel
theorem dX5_faultPlace_52 : decode cX5_faultPlace 52 = .ok (.iload 4, 2) := by decide +kernel
theorem dX5_faultPlace_54 : decode cX5_faultPlace 54 = .ok (.istore_n 1, 1) := by decide +kernel
theorem dX5_faultPlace_55 : decode cX5_faultPlace 55 = .ok (.iload 4, 2) := by decide +kernel
theorem dX5_faultPlace_57 : decode cX5_faultPlace 57 = .ok (.istore_n 2, 1) := by decide +kernel
theorem dX5_faultPlace_58 : decode cX5_faultPlace 58 = .ok (.iinc 3 1, 3) := by decide +kernel
theorem dX5_faultPlace_61 : decode cX5_faultPlace 61 = .ok (.iconst 0, 1) := by decide +kernel
theorem dX5_faultPlace_62 : decode cX5_faultPlace 62 = .ok (.istore 4, 2) := by decide +kernel
theorem dX5_faultPlace_64 : decode cX5_faultPlace 64 = .ok (.goto 29, 3) := by decide +kernel
theorem dX5_faultPlace_67 : decode cX5_faultPlace 67 = .ok (.iload 6, 2) := by decide +kernel
theorem dX5_faultPlace_69 : decode cX5_faultPlace 69 = .ok (.bipush 46, 2) := by decide +kernel
theorem dX5_faultPlace_71 : decode cX5_faultPlace 71 = .ok (.if_icmp .eq 10, 3) := by decide +kernel
theorem dX5_faultPlace_74 : decode cX5_faultPlace 74 = .ok (.iload 6, 2) := by decide +kernel
theorem dX5_faultPlace_76 : decode cX5_faultPlace 76 = .ok (.bipush 35, 2) := by decide +kernel
theorem dX5_faultPlace_78 : decode cX5_faultPlace 78 = .ok (.if_icmp .ne 9, 3) := by decide +kernel
theorem dX5_faultPlace_81 : decode cX5_faultPlace 81 = .ok (.iload 4, 2) := by decide +kernel
theorem dX5_faultPlace_83 : decode cX5_faultPlace 83 = .ok (.iload_n 2, 1) := by decide +kernel
theorem dX5_faultPlace_84 : decode cX5_faultPlace 84 = .ok (.if_icmp .ne 6, 3) := by decide +kernel
theorem dX5_faultPlace_87 : decode cX5_faultPlace 87 = .ok (.iload 5, 2) := by decide +kernel
theorem dX5_faultPlace_89 : decode cX5_faultPlace 89 = .ok (.ireturn, 1) := by decide +kernel
theorem dX5_faultPlace_90 : decode cX5_faultPlace 90 = .ok (.iinc 4 1, 3) := by decide +kernel
theorem dX5_faultPlace_93 : decode cX5_faultPlace 93 = .ok (.iinc 5 1, 3) := by decide +kernel
theorem dX5_faultPlace_96 : decode cX5_faultPlace 96 = .ok (.goto (-83), 3) := by decide +kernel
theorem dX5_faultPlace_99 : decode cX5_faultPlace 99 = .ok (.iload 4, 2) := by decide +kernel
theorem dX5_faultPlace_101 : decode cX5_faultPlace 101 = .ok (.iload_n 1, 1) := by decide +kernel
theorem dX5_faultPlace_102 : decode cX5_faultPlace 102 = .ok (.if_icmp .ge 10, 3) := by decide +kernel
theorem dX5_faultPlace_105 : decode cX5_faultPlace 105 = .ok (.aload_n 0, 1) := by decide +kernel
theorem dX5_faultPlace_106 : decode cX5_faultPlace 106 = .ok (.getfield 9, 3) := by decide +kernel
theorem dX5_faultPlace_109 : decode cX5_faultPlace 109 = .ok (.goto 5, 3) := by decide +kernel
theorem dX5_faultPlace_112 : decode cX5_faultPlace 112 = .ok (.bipush (-5), 2) := by decide +kernel
theorem dX5_faultPlace_114 : decode cX5_faultPlace 114 = .ok (.ireturn, 1) := by decide +kernel
theorem dX5_firstRowLength_0 : decode cX5_firstRowLength 0 = .ok (.iconst 0, 1) := by decide +kernel
theorem dX5_firstRowLength_1 : decode cX5_firstRowLength 1 = .ok (.istore_n 1, 1) := by decide +kernel
theorem dX5_firstRowLength_2 : decode cX5_firstRowLength 2 = .ok (.iload_n 1, 1) := by decide +kernel
theorem dX5_firstRowLength_3 : decode cX5_firstRowLength 3 = .ok (.aload_n 0, 1) := by decide +kernel
theorem dX5_firstRowLength_4 : decode cX5_firstRowLength 4 = .ok (.getfield 9, 3) := by decide +kernel
theorem dX5_firstRowLength_7 : decode cX5_firstRowLength 7 = .ok (.if_icmp .ge 21, 3) := by decide +kernel
theorem dX5_firstRowLength_10 : decode cX5_firstRowLength 10 = .ok (.aload_n 0, 1) := by decide +kernel
theorem dX5_firstRowLength_11 : decode cX5_firstRowLength 11 = .ok (.iload_n 1, 1) := by decide +kernel
theorem dX5_firstRowLength_12 : decode cX5_firstRowLength 12 = .ok (.invokevirtual 37, 3) := by decide +kernel
theorem dX5_firstRowLength_15 : decode cX5_firstRowLength 15 = .ok (.bipush 47, 2) := by decide +kernel
theorem dX5_firstRowLength_17 : decode cX5_firstRowLength 17 = .ok (.if_icmp .ne 5, 3) := by decide +kernel
theorem dX5_firstRowLength_20 : decode cX5_firstRowLength 20 = .ok (.iload_n 1, 1) := by decide +kernel
theorem dX5_firstRowLength_21 : decode cX5_firstRowLength 21 = .ok (.ireturn, 1) := by decide +kernel
theorem dX5_firstRowLength_22 : decode cX5_firstRowLength 22 = .ok (.iinc 1 1, 3) := by decide +kernel
theorem dX5_firstRowLength_25 : decode cX5_firstRowLength 25 = .ok (.goto (-23), 3) := by decide +kernel
theorem dX5_firstRowLength_28 : decode cX5_firstRowLength 28 = .ok (.aload_n 0, 1) := by decide +kernel
theorem dX5_firstRowLength_29 : decode cX5_firstRowLength 29 = .ok (.getfield 9, 3) := by decide +kernel
theorem dX5_firstRowLength_32 : decode cX5_firstRowLength 32 = .ok (.ireturn, 1) := by decide +kernel
theorem dX5_howManyRows_0 : decode cX5_howManyRows 0 = .ok (.iconst 1, 1) := by decide +kernel
theorem dX5_howManyRows_1 : decode cX5_howManyRows 1 = .ok (.istore_n 1, 1) := by decide +kernel
theorem dX5_howManyRows_2 : decode cX5_howManyRows 2 = .ok (.iconst 0, 1) := by decide +kernel
theorem dX5_howManyRows_3 : decode cX5_howManyRows 3 = .ok (.istore_n 2, 1) := by decide +kernel
theorem dX5_howManyRows_4 : decode cX5_howManyRows 4 = .ok (.iload_n 2, 1) := by decide +kernel
theorem dX5_howManyRows_5 : decode cX5_howManyRows 5 = .ok (.aload_n 0, 1) := by decide +kernel
theorem dX5_howManyRows_6 : decode cX5_howManyRows 6 = .ok (.getfield 9, 3) := by decide +kernel
theorem dX5_howManyRows_9 : decode cX5_howManyRows 9 = .ok (.if_icmp .ge 22, 3) := by decide +kernel
theorem dX5_howManyRows_12 : decode cX5_howManyRows 12 = .ok (.aload_n 0, 1) := by decide +kernel
theorem dX5_howManyRows_13 : decode cX5_howManyRows 13 = .ok (.iload_n 2, 1) := by decide +kernel
theorem dX5_howManyRows_14 : decode cX5_howManyRows 14 = .ok (.invokevirtual 37, 3) := by decide +kernel
theorem dX5_howManyRows_17 : decode cX5_howManyRows 17 = .ok (.bipush 47, 2) := by decide +kernel
theorem dX5_howManyRows_19 : decode cX5_howManyRows 19 = .ok (.if_icmp .ne 6, 3) := by decide +kernel
theorem dX5_howManyRows_22 : decode cX5_howManyRows 22 = .ok (.iinc 1 1, 3) := by decide +kernel
theorem dX5_howManyRows_25 : decode cX5_howManyRows 25 = .ok (.iinc 2 1, 3) := by decide +kernel
theorem dX5_howManyRows_28 : decode cX5_howManyRows 28 = .ok (.goto (-24), 3) := by decide +kernel
theorem dX5_howManyRows_31 : decode cX5_howManyRows 31 = .ok (.iload_n 1, 1) := by decide +kernel
theorem dX5_howManyRows_32 : decode cX5_howManyRows 32 = .ok (.ireturn, 1) := by decide +kernel
theorem dX6_init_0 : decode cX6_init 0 = .ok (.aload_n 0, 1) := by decide +kernel
theorem dX6_init_1 : decode cX6_init 1 = .ok (.invokespecial 3, 3) := by decide +kernel
theorem dX6_init_4 : decode cX6_init 4 = .ok (.aload_n 0, 1) := by decide +kernel
theorem dX6_init_5 : decode cX6_init 5 = .ok (.iconst 0, 1) := by decide +kernel
theorem dX6_init_6 : decode cX6_init 6 = .ok (.putfield 9, 3) := by decide +kernel
theorem dX6_init_9 : decode cX6_init 9 = .ok (.aload_n 0, 1) := by decide +kernel
theorem dX6_init_10 : decode cX6_init 10 = .ok (.iconst 0, 1) := by decide +kernel
theorem dX6_init_11 : decode cX6_init 11 = .ok (.putfield 15, 3) := by decide +kernel
theorem dX6_init_14 : decode cX6_init 14 = .ok (.aload_n 0, 1) := by decide +kernel
theorem dX6_init_15 : decode cX6_init 15 = .ok (.iconst 0, 1) := by decide +kernel
theorem dX6_init_16 : decode cX6_init 16 = .ok (.putfield 18, 3) := by decide +kernel
theorem dX6_init_19 : decode cX6_init 19 = .ok (.aload_n 0, 1) := by decide +kernel
theorem dX6_init_20 : decode cX6_init 20 = .ok (.iconst 0, 1) := by decide +kernel
theorem dX6_init_21 : decode cX6_init 21 = .ok (.putfield 21, 3) := by decide +kernel
theorem dX6_init_24 : decode cX6_init 24 = .ok (.aload_n 0, 1) := by decide +kernel
theorem dX6_init_25 : decode cX6_init 25 = .ok (.sipush 256, 3) := by decide +kernel
theorem dX6_init_28 : decode cX6_init 28 = .ok (.newarray .int, 2) := by decide +kernel
theorem dX6_init_30 : decode cX6_init 30 = .ok (.putfield 24, 3) := by decide +kernel
theorem dX6_init_33 : decode cX6_init 33 = .ok (.aload_n 0, 1) := by decide +kernel
theorem dX6_init_34 : decode cX6_init 34 = .ok (.sipush 256, 3) := by decide +kernel
theorem dX6_init_37 : decode cX6_init 37 = .ok (.newarray .int, 2) := by decide +kernel
theorem dX6_init_39 : decode cX6_init 39 = .ok (.putfield 28, 3) := by decide +kernel
theorem dX6_init_42 : decode cX6_init 42 = .ok (.aload_n 0, 1) := by decide +kernel
theorem dX6_init_43 : decode cX6_init 43 = .ok (.iconst 0, 1) := by decide +kernel
theorem dX6_init_44 : decode cX6_init 44 = .ok (.putfield 31, 3) := by decide +kernel
theorem dX6_init_47 : decode cX6_init 47 = .ok (.aload_n 0, 1) := by decide +kernel
theorem dX6_init_48 : decode cX6_init 48 = .ok (.bipush 65, 2) := by decide +kernel
theorem dX6_init_50 : decode cX6_init 50 = .ok (.newarray .int, 2) := by decide +kernel
theorem dX6_init_52 : decode cX6_init 52 = .ok (.putfield 34, 3) := by decide +kernel
theorem dX6_init_55 : decode cX6_init 55 = .ok (.aload_n 0, 1) := by decide +kernel
theorem dX6_init_56 : decode cX6_init 56 = .ok (.bipush 64, 2) := by decide +kernel
theorem dX6_init_58 : decode cX6_init 58 = .ok (.newarray .int, 2) := by decide +kernel
theorem dX6_init_60 : decode cX6_init 60 = .ok (.putfield 37, 3) := by decide +kernel
theorem dX6_init_63 : decode cX6_init 63 = .ok (.aload_n 0, 1) := by decide +kernel
theorem dX6_init_64 : decode cX6_init 64 = .ok (.bipush 64, 2) := by decide +kernel
theorem dX6_init_66 : decode cX6_init 66 = .ok (.newarray .int, 2) := by decide +kernel
theorem dX6_init_68 : decode cX6_init 68 = .ok (.putfield 40, 3) := by decide +kernel
theorem dX6_init_71 : decode cX6_init 71 = .ok (.return_, 1) := by decide +kernel
theorem dX6_cellsOf_0 : decode cX6_cellsOf 0 = .ok (.aload_n 0, 1) := by decide +kernel
theorem dX6_cellsOf_1 : decode cX6_cellsOf 1 = .ok (.getfield 34, 3) := by decide +kernel
theorem dX6_cellsOf_4 : decode cX6_cellsOf 4 = .ok (.iload_n 1, 1) := by decide +kernel
theorem dX6_cellsOf_5 : decode cX6_cellsOf 5 = .ok (.iconst 1, 1) := by decide +kernel
theorem dX6_cellsOf_6 : decode cX6_cellsOf 6 = .ok (.iadd, 1) := by decide +kernel
theorem dX6_cellsOf_7 : decode cX6_cellsOf 7 = .ok (.invokestatic 43, 3) := by decide +kernel
theorem dX6_cellsOf_10 : decode cX6_cellsOf 10 = .ok (.aload_n 0, 1) := by decide +kernel
theorem dX6_cellsOf_11 : decode cX6_cellsOf 11 = .ok (.getfield 34, 3) := by decide +kernel
theorem dX6_cellsOf_14 : decode cX6_cellsOf 14 = .ok (.iload_n 1, 1) := by decide +kernel
theorem dX6_cellsOf_15 : decode cX6_cellsOf 15 = .ok (.invokestatic 43, 3) := by decide +kernel
theorem dX6_cellsOf_18 : decode cX6_cellsOf 18 = .ok (.isub, 1) := by decide +kernel
theorem dX6_cellsOf_19 : decode cX6_cellsOf 19 = .ok (.ireturn, 1) := by decide +kernel
theorem dX6_firstCellOf_0 : decode cX6_firstCellOf 0 = .ok (.aload_n 0, 1) := by decide +kernel
theorem dX6_firstCellOf_1 : decode cX6_firstCellOf 1 = .ok (.getfield 28, 3) := by decide +kernel
theorem dX6_firstCellOf_4 : decode cX6_firstCellOf 4 = .ok (.aload_n 0, 1) := by decide +kernel
theorem dX6_firstCellOf_5 : decode cX6_firstCellOf 5 = .ok (.getfield 34, 3) := by decide +kernel
theorem dX6_firstCellOf_8 : decode cX6_firstCellOf 8 = .ok (.iload_n 1, 1) := by decide +kernel
theorem dX6_firstCellOf_9 : decode cX6_firstCellOf 9 = .ok (.invokestatic 43, 3) := by decide +kernel
theorem dX6_firstCellOf_12 : decode cX6_firstCellOf 12 = .ok (.invokestatic 43, 3) := by decide +kernel
theorem dX6_firstCellOf_15 : decode cX6_firstCellOf 15 = .ok (.istore_n 2, 1) := by decide +kernel
theorem dX6_firstCellOf_16 : decode cX6_firstCellOf 16 = .ok (.bipush 100, 2) := by decide +kernel
theorem dX6_firstCellOf_18 : decode cX6_firstCellOf 18 = .ok (.iload_n 2, 1) := by decide +kernel
theorem dX6_firstCellOf_19 : decode cX6_firstCellOf 19 = .ok (.bipush 15, 2) := by decide +kernel
theorem dX6_firstCellOf_21 : decode cX6_firstCellOf 21 = .ok (.iand, 1) := by decide +kernel
theorem dX6_firstCellOf_22 : decode cX6_firstCellOf 22 = .ok (.imul, 1) := by decide +kernel
theorem dX6_firstCellOf_23 : decode cX6_firstCellOf 23 = .ok (.iload_n 2, 1) := by decide +kernel
theorem dX6_firstCellOf_24 : decode cX6_firstCellOf 24 = .ok (.iconst 4, 1) := by decide +kernel
theorem dX6_firstCellOf_25 : decode cX6_firstCellOf 25 = .ok (.ishr, 1) := by decide +kernel
theorem dX6_firstCellOf_26 : decode cX6_firstCellOf 26 = .ok (.iadd, 1) := by decide +kernel
theorem dX6_firstCellOf_27 : decode cX6_firstCellOf 27 = .ok (.ireturn, 1) := by decide +kernel
theorem dX6_shapeOf_0 : decode cX6_shapeOf 0 = .ok (.aload_n 0, 1) := by decide +kernel
theorem dX6_shapeOf_1 : decode cX6_shapeOf 1 = .ok (.getfield 37, 3) := by decide +kernel
theorem dX6_shapeOf_4 : decode cX6_shapeOf 4 = .ok (.iload_n 1, 1) := by decide +kernel
theorem dX6_shapeOf_5 : decode cX6_shapeOf 5 = .ok (.invokestatic 43, 3) := by decide +kernel
theorem dX6_shapeOf_8 : decode cX6_shapeOf 8 = .ok (.ireturn, 1) := by decide +kernel
theorem dX6_thingOn_0 : decode cX6_thingOn 0 = .ok (.aload_n 0, 1) := by decide +kernel
theorem dX6_thingOn_1 : decode cX6_thingOn 1 = .ok (.getfield 24, 3) := by decide +kernel
theorem dX6_thingOn_4 : decode cX6_thingOn 4 = .ok (.bipush 16, 2) := by decide +kernel
theorem dX6_thingOn_6 : decode cX6_thingOn 6 = .ok (.iload_n 2, 1) := by decide +kernel
theorem dX6_thingOn_7 : decode cX6_thingOn 7 = .ok (.imul, 1) := by decide +kernel
theorem dX6_thingOn_8 : decode cX6_thingOn 8 = .ok (.iload_n 1, 1) := by decide +kernel
theorem dX6_thingOn_9 : decode cX6_thingOn 9 = .ok (.iadd, 1) := by decide +kernel
theorem dX6_thingOn_10 : decode cX6_thingOn 10 = .ok (.invokestatic 43, 3) := by decide +kernel
theorem dX6_thingOn_13 : decode cX6_thingOn 13 = .ok (.ireturn, 1) := by decide +kernel
theorem dX6_modelOf_0 : decode cX6_modelOf 0 = .ok (.aload_n 0, 1) := by decide +kernel
theorem dX6_modelOf_1 : decode cX6_modelOf 1 = .ok (.getfield 40, 3) := by decide +kernel
theorem dX6_modelOf_4 : decode cX6_modelOf 4 = .ok (.iload_n 1, 1) := by decide +kernel
theorem dX6_modelOf_5 : decode cX6_modelOf 5 = .ok (.invokestatic 43, 3) := by decide +kernel
theorem dX6_modelOf_8 : decode cX6_modelOf 8 = .ok (.ireturn, 1) := by decide +kernel
theorem dX6_thingsLike_0 : decode cX6_thingsLike 0 = .ok (.iconst 0, 1) := by decide +kernel
theorem dX6_thingsLike_1 : decode cX6_thingsLike 1 = .ok (.istore_n 2, 1) := by decide +kernel
theorem dX6_thingsLike_2 : decode cX6_thingsLike 2 = .ok (.iconst 0, 1) := by decide +kernel
theorem dX6_thingsLike_3 : decode cX6_thingsLike 3 = .ok (.istore_n 3, 1) := by decide +kernel
theorem dX6_thingsLike_4 : decode cX6_thingsLike 4 = .ok (.iload_n 3, 1) := by decide +kernel
theorem dX6_thingsLike_5 : decode cX6_thingsLike 5 = .ok (.aload_n 0, 1) := by decide +kernel
theorem dX6_thingsLike_6 : decode cX6_thingsLike 6 = .ok (.getfield 9, 3) := by decide +kernel
theorem dX6_thingsLike_9 : decode cX6_thingsLike 9 = .ok (.if_icmp .ge 21, 3) := by decide +kernel
theorem dX6_thingsLike_12 : decode cX6_thingsLike 12 = .ok (.aload_n 0, 1) := by decide +kernel
theorem dX6_thingsLike_13 : decode cX6_thingsLike 13 = .ok (.iload_n 3, 1) := by decide +kernel
theorem dX6_thingsLike_14 : decode cX6_thingsLike 14 = .ok (.invokevirtual 47, 3) := by decide +kernel
theorem dX6_thingsLike_17 : decode cX6_thingsLike 17 = .ok (.iload_n 1, 1) := by decide +kernel
theorem dX6_thingsLike_18 : decode cX6_thingsLike 18 = .ok (.if_icmp .ne 6, 3) := by decide +kernel
theorem dX6_thingsLike_21 : decode cX6_thingsLike 21 = .ok (.iinc 2 1, 3) := by decide +kernel
theorem dX6_thingsLike_24 : decode cX6_thingsLike 24 = .ok (.iinc 3 1, 3) := by decide +kernel
theorem dX6_thingsLike_27 : decode cX6_thingsLike 27 = .ok (.goto (-23), 3) := by decide +kernel
theorem dX6_thingsLike_30 : decode cX6_thingsLike 30 = .ok (.iload_n 2, 1) := by decide +kernel
theorem dX6_thingsLike_31 : decode cX6_thingsLike 31 = .ok (.ireturn, 1) := by decide +kernel
theorem dX6_lookAt_0 : decode cX6_lookAt 0 = .ok (.aload_n 0, 1) := by decide +kernel
theorem dX6_lookAt_1 : decode cX6_lookAt 1 = .ok (.aload_n 1, 1) := by decide +kernel
theorem dX6_lookAt_2 : decode cX6_lookAt 2 = .ok (.getfield 51, 3) := by decide +kernel
theorem dX6_lookAt_5 : decode cX6_lookAt 5 = .ok (.putfield 18, 3) := by decide +kernel
theorem dX6_lookAt_8 : decode cX6_lookAt 8 = .ok (.aload_n 0, 1) := by decide +kernel
theorem dX6_lookAt_9 : decode cX6_lookAt 9 = .ok (.aload_n 1, 1) := by decide +kernel
theorem dX6_lookAt_10 : decode cX6_lookAt 10 = .ok (.getfield 54, 3) := by decide +kernel
theorem dX6_lookAt_13 : decode cX6_lookAt 13 = .ok (.putfield 21, 3) := by decide +kernel
theorem dX6_lookAt_16 : decode cX6_lookAt 16 = .ok (.aload_n 0, 1) := by decide +kernel
theorem dX6_lookAt_17 : decode cX6_lookAt 17 = .ok (.iconst 0, 1) := by decide +kernel
theorem dX6_lookAt_18 : decode cX6_lookAt 18 = .ok (.putfield 9, 3) := by decide +kernel
theorem dX6_lookAt_21 : decode cX6_lookAt 21 = .ok (.aload_n 0, 1) := by decide +kernel
theorem dX6_lookAt_22 : decode cX6_lookAt 22 = .ok (.iconst 0, 1) := by decide +kernel
theorem dX6_lookAt_23 : decode cX6_lookAt 23 = .ok (.putfield 31, 3) := by decide +kernel
theorem dX6_lookAt_26 : decode cX6_lookAt 26 = .ok (.iconst 0, 1) := by decide +kernel
theorem dX6_lookAt_27 : decode cX6_lookAt 27 = .ok (.istore_n 2, 1) := by decide +kernel
theorem dX6_lookAt_28 : decode cX6_lookAt 28 = .ok (.iload_n 2, 1) := by decide +kernel
theorem dX6_lookAt_29 : decode cX6_lookAt 29 = .ok (.aload_n 0, 1) := by decide +kernel
theorem dX6_lookAt_30 : decode cX6_lookAt 30 = .ok (.getfield 21, 3) := by decide +kernel
theorem dX6_lookAt_33 : decode cX6_lookAt 33 = .ok (.if_icmp .ge 54, 3) := by decide +kernel
theorem dX6_lookAt_36 : decode cX6_lookAt 36 = .ok (.iconst 0, 1) := by decide +kernel
theorem dX6_lookAt_37 : decode cX6_lookAt 37 = .ok (.istore_n 3, 1) := by decide +kernel
theorem dX6_lookAt_38 : decode cX6_lookAt 38 = .ok (.iload_n 3, 1) := by decide +kernel
theorem dX6_lookAt_39 : decode cX6_lookAt 39 = .ok (.aload_n 0, 1) := by decide +kernel
theorem dX6_lookAt_40 : decode cX6_lookAt 40 = .ok (.getfield 18, 3) := by decide +kernel
theorem dX6_lookAt_43 : decode cX6_lookAt 43 = .ok (.if_icmp .ge 38, 3) := by decide +kernel
theorem dX6_lookAt_46 : decode cX6_lookAt 46 = .ok (.aload_n 0, 1) := by decide +kernel
theorem dX6_lookAt_47 : decode cX6_lookAt 47 = .ok (.getfield 24, 3) := by decide +kernel
theorem dX6_lookAt_50 : decode cX6_lookAt 50 = .ok (.bipush 16, 2) := by decide +kernel
theorem dX6_lookAt_52 : decode cX6_lookAt 52 = .ok (.iload_n 2, 1) := by decide +kernel
theorem dX6_lookAt_53 : decode cX6_lookAt 53 = .ok (.imul, 1) := by decide +kernel
theorem dX6_lookAt_54 : decode cX6_lookAt 54 = .ok (.iload_n 3, 1) := by decide +kernel
theorem dX6_lookAt_55 : decode cX6_lookAt 55 = .ok (.iadd, 1) := by decide +kernel
theorem dX6_lookAt_56 : decode cX6_lookAt 56 = .ok (.aload_n 1, 1) := by decide +kernel
theorem dX6_lookAt_57 : decode cX6_lookAt 57 = .ok (.iload_n 3, 1) := by decide +kernel
theorem dX6_lookAt_58 : decode cX6_lookAt 58 = .ok (.iload_n 2, 1) := by decide +kernel
theorem dX6_lookAt_59 : decode cX6_lookAt 59 = .ok (.invokevirtual 55, 3) := by decide +kernel
theorem dX6_lookAt_62 : decode cX6_lookAt 62 = .ok (.iconst 1, 1) := by decide +kernel
theorem dX6_lookAt_63 : decode cX6_lookAt 63 = .ok (.if_icmp .ne 7, 3) := by decide +kernel
theorem dX6_lookAt_66 : decode cX6_lookAt 66 = .ok (.iconst (-1), 1) := by decide +kernel
theorem dX6_lookAt_67 : decode cX6_lookAt 67 = .ok (.goto 5, 3) := by decide +kernel
theorem dX6_lookAt_70 : decode cX6_lookAt 70 = .ok (.bipush (-5), 2) := by decide +kernel
theorem dX6_lookAt_72 : decode cX6_lookAt 72 = .ok (.invokestatic 59, 3) := by decide +kernel
theorem dX6_lookAt_75 : decode cX6_lookAt 75 = .ok (.iinc 3 1, 3) := by decide +kernel
theorem dX6_lookAt_78 : decode cX6_lookAt 78 = .ok (.goto (-40), 3) := by decide +kernel
theorem dX6_lookAt_81 : decode cX6_lookAt 81 = .ok (.iinc 2 1, 3) := by decide +kernel
theorem dX6_lookAt_84 : decode cX6_lookAt 84 = .ok (.goto (-56), 3) := by decide +kernel
theorem dX6_lookAt_87 : decode cX6_lookAt 87 = .ok (.iconst 0, 1) := by decide +kernel
theorem dX6_lookAt_88 : decode cX6_lookAt 88 = .ok (.istore_n 2, 1) := by decide +kernel
theorem dX6_lookAt_89 : decode cX6_lookAt 89 = .ok (.iload_n 2, 1) := by decide +kernel
theorem dX6_lookAt_90 : decode cX6_lookAt 90 = .ok (.aload_n 0, 1) := by decide +kernel
theorem dX6_lookAt_91 : decode cX6_lookAt 91 = .ok (.getfield 21, 3) := by decide +kernel
theorem dX6_lookAt_94 : decode cX6_lookAt 94 = .ok (.if_icmp .ge 41, 3) := by decide +kernel
theorem dX6_lookAt_97 : decode cX6_lookAt 97 = .ok (.iconst 0, 1) := by decide +kernel
theorem dX6_lookAt_98 : decode cX6_lookAt 98 = .ok (.istore_n 3, 1) := by decide +kernel
theorem dX6_lookAt_99 : decode cX6_lookAt 99 = .ok (.iload_n 3, 1) := by decide +kernel
theorem dX6_lookAt_100 : decode cX6_lookAt 100 = .ok (.aload_n 0, 1) := by decide +kernel
theorem dX6_lookAt_101 : decode cX6_lookAt 101 = .ok (.getfield 18, 3) := by decide +kernel
theorem dX6_lookAt_104 : decode cX6_lookAt 104 = .ok (.if_icmp .ge 25, 3) := by decide +kernel
theorem dX6_lookAt_107 : decode cX6_lookAt 107 = .ok (.aload_n 0, 1) := by decide +kernel
theorem dX6_lookAt_108 : decode cX6_lookAt 108 = .ok (.iload_n 3, 1) := by decide +kernel
theorem dX6_lookAt_109 : decode cX6_lookAt 109 = .ok (.iload_n 2, 1) := by decide +kernel
theorem dX6_lookAt_110 : decode cX6_lookAt 110 = .ok (.invokevirtual 63, 3) := by decide +kernel
theorem dX6_lookAt_113 : decode cX6_lookAt 113 = .ok (.iconst (-1), 1) := by decide +kernel
theorem dX6_lookAt_114 : decode cX6_lookAt 114 = .ok (.if_icmp .ne 9, 3) := by decide +kernel
theorem dX6_lookAt_117 : decode cX6_lookAt 117 = .ok (.aload_n 0, 1) := by decide +kernel
theorem dX6_lookAt_118 : decode cX6_lookAt 118 = .ok (.iload_n 3, 1) := by decide +kernel
theorem dX6_lookAt_119 : decode cX6_lookAt 119 = .ok (.iload_n 2, 1) := by decide +kernel
theorem dX6_lookAt_120 : decode cX6_lookAt 120 = .ok (.invokevirtual 66, 3) := by decide +kernel
theorem dX6_lookAt_123 : decode cX6_lookAt 123 = .ok (.iinc 3 1, 3) := by decide +kernel
theorem dX6_lookAt_126 : decode cX6_lookAt 126 = .ok (.goto (-27), 3) := by decide +kernel
theorem dX6_lookAt_129 : decode cX6_lookAt 129 = .ok (.iinc 2 1, 3) := by decide +kernel
theorem dX6_lookAt_132 : decode cX6_lookAt 132 = .ok (.goto (-43), 3) := by decide +kernel
theorem dX6_lookAt_135 : decode cX6_lookAt 135 = .ok (.aload_n 0, 1) := by decide +kernel
theorem dX6_lookAt_136 : decode cX6_lookAt 136 = .ok (.invokevirtual 70, 3) := by decide +kernel
theorem dX6_lookAt_139 : decode cX6_lookAt 139 = .ok (.return_, 1) := by decide +kernel
theorem dX6_gather_0 : decode cX6_gather 0 = .ok (.aload_n 0, 1) := by decide +kernel
theorem dX6_gather_1 : decode cX6_gather 1 = .ok (.getfield 31, 3) := by decide +kernel
theorem dX6_gather_4 : decode cX6_gather 4 = .ok (.istore_n 3, 1) := by decide +kernel
theorem dX6_gather_5 : decode cX6_gather 5 = .ok (.aload_n 0, 1) := by decide +kernel
theorem dX6_gather_6 : decode cX6_gather 6 = .ok (.iload_n 1, 1) := by decide +kernel
theorem dX6_gather_7 : decode cX6_gather 7 = .ok (.iload_n 2, 1) := by decide +kernel
theorem dX6_gather_8 : decode cX6_gather 8 = .ok (.invokevirtual 73, 3) := by decide +kernel
theorem dX6_gather_11 : decode cX6_gather 11 = .ok (.iload_n 3, 1) := by decide +kernel
theorem dX6_gather_12 : decode cX6_gather 12 = .ok (.istore 4, 2) := by decide +kernel
theorem dX6_gather_14 : decode cX6_gather 14 = .ok (.iload 4, 2) := by decide +kernel
theorem dX6_gather_16 : decode cX6_gather 16 = .ok (.aload_n 0, 1) := by decide +kernel
theorem dX6_gather_17 : decode cX6_gather 17 = .ok (.getfield 31, 3) := by decide +kernel
theorem dX6_gather_20 : decode cX6_gather 20 = .ok (.if_icmp .ge 30, 3) := by decide +kernel
theorem dX6_gather_23 : decode cX6_gather 23 = .ok (.iload 4, 2) := by decide +kernel
theorem dX6_gather_25 : decode cX6_gather 25 = .ok (.aload_n 0, 1) := by decide +kernel
theorem dX6_gather_26 : decode cX6_gather 26 = .ok (.getfield 28, 3) := by decide +kernel
theorem dX6_gather_29 : decode cX6_gather 29 = .ok (.arraylength, 1) := by decide +kernel
theorem dX6_gather_30 : decode cX6_gather 30 = .ok (.if_icmp .ge 20, 3) := by decide +kernel
theorem dX6_gather_33 : decode cX6_gather 33 = .ok (.aload_n 0, 1) := by decide +kernel
theorem dX6_gather_34 : decode cX6_gather 34 = .ok (.aload_n 0, 1) := by decide +kernel
theorem dX6_gather_35 : decode cX6_gather 35 = .ok (.getfield 28, 3) := by decide +kernel
theorem dX6_gather_38 : decode cX6_gather 38 = .ok (.iload 4, 2) := by decide +kernel
theorem dX6_gather_40 : decode cX6_gather 40 = .ok (.iaload, 1) := by decide +kernel
theorem dX6_gather_41 : decode cX6_gather 41 = .ok (.invokevirtual 76, 3) := by decide +kernel
theorem dX6_gather_44 : decode cX6_gather 44 = .ok (.iinc 4 1, 3) := by decide +kernel
theorem dX6_gather_47 : decode cX6_gather 47 = .ok (.goto (-33), 3) := by decide +kernel
theorem dX6_gather_50 : decode cX6_gather 50 = .ok (.aload_n 0, 1) := by decide +kernel
theorem dX6_gather_51 : decode cX6_gather 51 = .ok (.dup, 1) := by decide +kernel
theorem dX6_gather_52 : decode cX6_gather 52 = .ok (.getfield 9, 3) := by decide +kernel
theorem dX6_gather_55 : decode cX6_gather 55 = .ok (.iconst 1, 1) := by decide +kernel
theorem dX6_gather_56 : decode cX6_gather 56 = .ok (.iadd, 1) := by decide +kernel
theorem dX6_gather_57 : decode cX6_gather 57 = .ok (.putfield 9, 3) := by decide +kernel
theorem dX6_gather_60 : decode cX6_gather 60 = .ok (.aload_n 0, 1) := by decide +kernel
theorem dX6_gather_61 : decode cX6_gather 61 = .ok (.getfield 34, 3) := by decide +kernel
theorem dX6_gather_64 : decode cX6_gather 64 = .ok (.aload_n 0, 1) := by decide +kernel
theorem dX6_gather_65 : decode cX6_gather 65 = .ok (.getfield 9, 3) := by decide +kernel
theorem dX6_gather_68 : decode cX6_gather 68 = .ok (.aload_n 0, 1) := by decide +kernel
theorem dX6_gather_69 : decode cX6_gather 69 = .ok (.getfield 31, 3) := by decide +kernel
theorem dX6_gather_72 : decode cX6_gather 72 = .ok (.invokestatic 59, 3) := by decide +kernel
theorem dX6_gather_75 : decode cX6_gather 75 = .ok (.return_, 1) := by decide +kernel
theorem dX6_joinNeighbours_0 : decode cX6_joinNeighbours 0 = .ok (.iconst (-1), 1) := by decide +kernel
theorem dX6_joinNeighbours_1 : decode cX6_joinNeighbours 1 = .ok (.istore_n 2, 1) := by decide +kernel
theorem dX6_joinNeighbours_2 : decode cX6_joinNeighbours 2 = .ok (.iload_n 2, 1) := by decide +kernel
theorem dX6_joinNeighbours_3 : decode cX6_joinNeighbours 3 = .ok (.iconst 1, 1) := by decide +kernel
theorem dX6_joinNeighbours_4 : decode cX6_joinNeighbours 4 = .ok (.if_icmp .gt 71, 3) := by decide +kernel
theorem dX6_joinNeighbours_7 : decode cX6_joinNeighbours 7 = .ok (.iload_n 1, 1) := by decide +kernel
theorem dX6_joinNeighbours_8 : decode cX6_joinNeighbours 8 = .ok (.iconst 4, 1) := by decide +kernel
theorem dX6_joinNeighbours_9 : decode cX6_joinNeighbours 9 = .ok (.ishr, 1) := by decide +kernel
theorem dX6_joinNeighbours_10 : decode cX6_joinNeighbours 10 = .ok (.iload_n 2, 1) := by decide +kernel
theorem dX6_joinNeighbours_11 : decode cX6_joinNeighbours 11 = .ok (.iadd, 1) := by decide +kernel
theorem dX6_joinNeighbours_12 : decode cX6_joinNeighbours 12 = .ok (.aload_n 0, 1) := by decide +kernel
theorem dX6_joinNeighbours_13 : decode cX6_joinNeighbours 13 = .ok (.getfield 21, 3) := by decide +kernel
theorem dX6_joinNeighbours_16 : decode cX6_joinNeighbours 16 = .ok (.invokestatic 80, 3) := by decide +kernel
theorem dX6_joinNeighbours_19 : decode cX6_joinNeighbours 19 = .ok (.istore_n 3, 1) := by decide +kernel
theorem dX6_joinNeighbours_20 : decode cX6_joinNeighbours 20 = .ok (.iconst (-1), 1) := by decide +kernel
theorem dX6_joinNeighbours_21 : decode cX6_joinNeighbours 21 = .ok (.istore 4, 2) := by decide +kernel
theorem dX6_joinNeighbours_23 : decode cX6_joinNeighbours 23 = .ok (.iload 4, 2) := by decide +kernel
theorem dX6_joinNeighbours_25 : decode cX6_joinNeighbours 25 = .ok (.iconst 1, 1) := by decide +kernel
theorem dX6_joinNeighbours_26 : decode cX6_joinNeighbours 26 = .ok (.if_icmp .gt 43, 3) := by decide +kernel
theorem dX6_joinNeighbours_29 : decode cX6_joinNeighbours 29 = .ok (.iload_n 1, 1) := by decide +kernel
theorem dX6_joinNeighbours_30 : decode cX6_joinNeighbours 30 = .ok (.bipush 15, 2) := by decide +kernel
theorem dX6_joinNeighbours_32 : decode cX6_joinNeighbours 32 = .ok (.iand, 1) := by decide +kernel
theorem dX6_joinNeighbours_33 : decode cX6_joinNeighbours 33 = .ok (.iload 4, 2) := by decide +kernel
theorem dX6_joinNeighbours_35 : decode cX6_joinNeighbours 35 = .ok (.iadd, 1) := by decide +kernel
theorem dX6_joinNeighbours_36 : decode cX6_joinNeighbours 36 = .ok (.aload_n 0, 1) := by decide +kernel
theorem dX6_joinNeighbours_37 : decode cX6_joinNeighbours 37 = .ok (.getfield 18, 3) := by decide +kernel
theorem dX6_joinNeighbours_40 : decode cX6_joinNeighbours 40 = .ok (.invokestatic 80, 3) := by decide +kernel
theorem dX6_joinNeighbours_43 : decode cX6_joinNeighbours 43 = .ok (.istore 5, 2) := by decide +kernel
theorem dX6_joinNeighbours_45 : decode cX6_joinNeighbours 45 = .ok (.aload_n 0, 1) := by decide +kernel
theorem dX6_joinNeighbours_46 : decode cX6_joinNeighbours 46 = .ok (.iload 5, 2) := by decide +kernel
theorem dX6_joinNeighbours_48 : decode cX6_joinNeighbours 48 = .ok (.iload_n 3, 1) := by decide +kernel
theorem dX6_joinNeighbours_49 : decode cX6_joinNeighbours 49 = .ok (.invokevirtual 63, 3) := by decide +kernel
theorem dX6_joinNeighbours_52 : decode cX6_joinNeighbours 52 = .ok (.iconst (-1), 1) := by decide +kernel
theorem dX6_joinNeighbours_53 : decode cX6_joinNeighbours 53 = .ok (.if_icmp .ne 10, 3) := by decide +kernel
theorem dX6_joinNeighbours_56 : decode cX6_joinNeighbours 56 = .ok (.aload_n 0, 1) := by decide +kernel
theorem dX6_joinNeighbours_57 : decode cX6_joinNeighbours 57 = .ok (.iload 5, 2) := by decide +kernel
theorem dX6_joinNeighbours_59 : decode cX6_joinNeighbours 59 = .ok (.iload_n 3, 1) := by decide +kernel
theorem dX6_joinNeighbours_60 : decode cX6_joinNeighbours 60 = .ok (.invokevirtual 73, 3) := by decide +kernel
theorem dX6_joinNeighbours_63 : decode cX6_joinNeighbours 63 = .ok (.iinc 4 1, 3) := by decide +kernel
theorem dX6_joinNeighbours_66 : decode cX6_joinNeighbours 66 = .ok (.goto (-43), 3) := by decide +kernel
theorem dX6_joinNeighbours_69 : decode cX6_joinNeighbours 69 = .ok (.iinc 2 1, 3) := by decide +kernel
theorem dX6_joinNeighbours_72 : decode cX6_joinNeighbours 72 = .ok (.goto (-70), 3) := by decide +kernel
theorem dX6_joinNeighbours_75 : decode cX6_joinNeighbours 75 = .ok (.return_, 1) := by decide +kernel
theorem dX6_join_0 : decode cX6_join 0 = .ok (.aload_n 0, 1) := by decide +kernel
theorem dX6_join_1 : decode cX6_join 1 = .ok (.getfield 24, 3) := by decide +kernel
theorem dX6_join_4 : decode cX6_join 4 = .ok (.bipush 16, 2) := by decide +kernel
theorem dX6_join_6 : decode cX6_join 6 = .ok (.iload_n 2, 1) := by decide +kernel
theorem dX6_join_7 : decode cX6_join 7 = .ok (.imul, 1) := by decide +kernel
theorem dX6_join_8 : decode cX6_join 8 = .ok (.iload_n 1, 1) := by decide +kernel
theorem dX6_join_9 : decode cX6_join 9 = .ok (.iadd, 1) := by decide +kernel
theorem dX6_join_10 : decode cX6_join 10 = .ok (.aload_n 0, 1) := by decide +kernel
theorem dX6_join_11 : decode cX6_join 11 = .ok (.getfield 9, 3) := by decide +kernel
theorem dX6_join_14 : decode cX6_join 14 = .ok (.invokestatic 59, 3) := by decide +kernel
theorem dX6_join_17 : decode cX6_join 17 = .ok (.aload_n 0, 1) := by decide +kernel
theorem dX6_join_18 : decode cX6_join 18 = .ok (.getfield 28, 3) := by decide +kernel
theorem dX6_join_21 : decode cX6_join 21 = .ok (.aload_n 0, 1) := by decide +kernel
theorem dX6_join_22 : decode cX6_join 22 = .ok (.getfield 31, 3) := by decide +kernel
theorem dX6_join_25 : decode cX6_join 25 = .ok (.bipush 16, 2) := by decide +kernel
theorem dX6_join_27 : decode cX6_join 27 = .ok (.iload_n 2, 1) := by decide +kernel
theorem dX6_join_28 : decode cX6_join 28 = .ok (.imul, 1) := by decide +kernel
theorem dX6_join_29 : decode cX6_join 29 = .ok (.iload_n 1, 1) := by decide +kernel
theorem dX6_join_30 : decode cX6_join 30 = .ok (.iadd, 1) := by decide +kernel
theorem dX6_join_31 : decode cX6_join 31 = .ok (.invokestatic 59, 3) := by decide +kernel
theorem dX6_join_34 : decode cX6_join 34 = .ok (.aload_n 0, 1) := by decide +kernel
theorem dX6_join_35 : decode cX6_join 35 = .ok (.dup, 1) := by decide +kernel
theorem dX6_join_36 : decode cX6_join 36 = .ok (.getfield 31, 3) := by decide +kernel
theorem dX6_join_39 : decode cX6_join 39 = .ok (.iconst 1, 1) := by decide +kernel
theorem dX6_join_40 : decode cX6_join 40 = .ok (.iadd, 1) := by decide +kernel
theorem dX6_join_41 : decode cX6_join 41 = .ok (.putfield 31, 3) := by decide +kernel
theorem dX6_join_44 : decode cX6_join 44 = .ok (.return_, 1) := by decide +kernel
theorem dX6_nameShapes_0 : decode cX6_nameShapes 0 = .ok (.aload_n 0, 1) := by decide +kernel
theorem dX6_nameShapes_1 : decode cX6_nameShapes 1 = .ok (.iconst 0, 1) := by decide +kernel
theorem dX6_nameShapes_2 : decode cX6_nameShapes 2 = .ok (.putfield 15, 3) := by decide +kernel
theorem dX6_nameShapes_5 : decode cX6_nameShapes 5 = .ok (.iconst 0, 1) := by decide +kernel
theorem dX6_nameShapes_6 : decode cX6_nameShapes 6 = .ok (.istore_n 1, 1) := by decide +kernel
theorem dX6_nameShapes_7 : decode cX6_nameShapes 7 = .ok (.iload_n 1, 1) := by decide +kernel
theorem dX6_nameShapes_8 : decode cX6_nameShapes 8 = .ok (.aload_n 0, 1) := by decide +kernel
theorem dX6_nameShapes_9 : decode cX6_nameShapes 9 = .ok (.getfield 9, 3) := by decide +kernel
theorem dX6_nameShapes_12 : decode cX6_nameShapes 12 = .ok (.if_icmp .ge 74, 3) := by decide +kernel
theorem dX6_nameShapes_15 : decode cX6_nameShapes 15 = .ok (.iconst 0, 1) := by decide +kernel
theorem dX6_nameShapes_16 : decode cX6_nameShapes 16 = .ok (.istore_n 2, 1) := by decide +kernel
theorem dX6_nameShapes_17 : decode cX6_nameShapes 17 = .ok (.iload_n 2, 1) := by decide +kernel
theorem dX6_nameShapes_18 : decode cX6_nameShapes 18 = .ok (.aload_n 0, 1) := by decide +kernel
theorem dX6_nameShapes_19 : decode cX6_nameShapes 19 = .ok (.getfield 15, 3) := by decide +kernel
theorem dX6_nameShapes_22 : decode cX6_nameShapes 22 = .ok (.if_icmp .ge 22, 3) := by decide +kernel
theorem dX6_nameShapes_25 : decode cX6_nameShapes 25 = .ok (.aload_n 0, 1) := by decide +kernel
theorem dX6_nameShapes_26 : decode cX6_nameShapes 26 = .ok (.aload_n 0, 1) := by decide +kernel
theorem dX6_nameShapes_27 : decode cX6_nameShapes 27 = .ok (.iload_n 2, 1) := by decide +kernel
theorem dX6_nameShapes_28 : decode cX6_nameShapes 28 = .ok (.invokevirtual 83, 3) := by decide +kernel
theorem dX6_nameShapes_31 : decode cX6_nameShapes 31 = .ok (.iload_n 1, 1) := by decide +kernel
theorem dX6_nameShapes_32 : decode cX6_nameShapes 32 = .ok (.invokevirtual 86, 3) := by decide +kernel
theorem dX6_nameShapes_35 : decode cX6_nameShapes 35 = .ok (.ifCond .ne 9, 3) := by decide +kernel
theorem dX6_nameShapes_38 : decode cX6_nameShapes 38 = .ok (.iinc 2 1, 3) := by decide +kernel
theorem dX6_nameShapes_41 : decode cX6_nameShapes 41 = .ok (.goto (-24), 3) := by decide +kernel
theorem dX6_nameShapes_44 : decode cX6_nameShapes 44 = .ok (.iload_n 2, 1) := by decide +kernel
theorem dX6_nameShapes_45 : decode cX6_nameShapes 45 = .ok (.aload_n 0, 1) := by decide +kernel
theorem dX6_nameShapes_46 : decode cX6_nameShapes 46 = .ok (.getfield 15, 3) := by decide +kernel
theorem dX6_nameShapes_49 : decode cX6_nameShapes 49 = .ok (.if_icmp .ne 22, 3) := by decide +kernel
theorem dX6_nameShapes_52 : decode cX6_nameShapes 52 = .ok (.aload_n 0, 1) := by decide +kernel
theorem dX6_nameShapes_53 : decode cX6_nameShapes 53 = .ok (.getfield 40, 3) := by decide +kernel
theorem dX6_nameShapes_56 : decode cX6_nameShapes 56 = .ok (.iload_n 2, 1) := by decide +kernel
theorem dX6_nameShapes_57 : decode cX6_nameShapes 57 = .ok (.iload_n 1, 1) := by decide +kernel
theorem dX6_nameShapes_58 : decode cX6_nameShapes 58 = .ok (.invokestatic 59, 3) := by decide +kernel
theorem dX6_nameShapes_61 : decode cX6_nameShapes 61 = .ok (.aload_n 0, 1) := by decide +kernel
theorem dX6_nameShapes_62 : decode cX6_nameShapes 62 = .ok (.dup, 1) := by decide +kernel
theorem dX6_nameShapes_63 : decode cX6_nameShapes 63 = .ok (.getfield 15, 3) := by decide +kernel
theorem dX6_nameShapes_66 : decode cX6_nameShapes 66 = .ok (.iconst 1, 1) := by decide +kernel
theorem dX6_nameShapes_67 : decode cX6_nameShapes 67 = .ok (.iadd, 1) := by decide +kernel
theorem dX6_nameShapes_68 : decode cX6_nameShapes 68 = .ok (.putfield 15, 3) := by decide +kernel
theorem dX6_nameShapes_71 : decode cX6_nameShapes 71 = .ok (.aload_n 0, 1) := by decide +kernel
theorem dX6_nameShapes_72 : decode cX6_nameShapes 72 = .ok (.getfield 37, 3) := by decide +kernel
theorem dX6_nameShapes_75 : decode cX6_nameShapes 75 = .ok (.iload_n 1, 1) := by decide +kernel
theorem dX6_nameShapes_76 : decode cX6_nameShapes 76 = .ok (.iload_n 2, 1) := by decide +kernel
theorem dX6_nameShapes_77 : decode cX6_nameShapes 77 = .ok (.invokestatic 59, 3) := by decide +kernel
theorem dX6_nameShapes_80 : decode cX6_nameShapes 80 = .ok (.iinc 1 1, 3) := by decide +kernel
theorem dX6_nameShapes_83 : decode cX6_nameShapes 83 = .ok (.goto (-76), 3) := by decide +kernel
theorem dX6_nameShapes_86 : decode cX6_nameShapes 86 = .ok (.return_, 1) := by decide +kernel
theorem dX6_areAlike_0 : decode cX6_areAlike 0 = .ok (.aload_n 0, 1) := by decide +kernel
theorem dX6_areAlike_1 : decode cX6_areAlike 1 = .ok (.iload_n 1, 1) := by decide +kernel
theorem dX6_areAlike_2 : decode cX6_areAlike 2 = .ok (.invokevirtual 90, 3) := by decide +kernel
theorem dX6_areAlike_5 : decode cX6_areAlike 5 = .ok (.aload_n 0, 1) := by decide +kernel
theorem dX6_areAlike_6 : decode cX6_areAlike 6 = .ok (.iload_n 2, 1) := by decide +kernel
theorem dX6_areAlike_7 : decode cX6_areAlike 7 = .ok (.invokevirtual 90, 3) := by decide +kernel
theorem dX6_areAlike_10 : decode cX6_areAlike 10 = .ok (.if_icmp .eq 5, 3) := by decide +kernel
theorem dX6_areAlike_13 : decode cX6_areAlike 13 = .ok (.iconst 0, 1) := by decide +kernel
theorem dX6_areAlike_14 : decode cX6_areAlike 14 = .ok (.ireturn, 1) := by decide +kernel
theorem dX6_areAlike_15 : decode cX6_areAlike 15 = .ok (.aload_n 0, 1) := by decide +kernel
theorem dX6_areAlike_16 : decode cX6_areAlike 16 = .ok (.getfield 28, 3) := by decide +kernel
theorem dX6_areAlike_19 : decode cX6_areAlike 19 = .ok (.aload_n 0, 1) := by decide +kernel
theorem dX6_areAlike_20 : decode cX6_areAlike 20 = .ok (.getfield 34, 3) := by decide +kernel
theorem dX6_areAlike_23 : decode cX6_areAlike 23 = .ok (.iload_n 1, 1) := by decide +kernel
theorem dX6_areAlike_24 : decode cX6_areAlike 24 = .ok (.invokestatic 43, 3) := by decide +kernel
theorem dX6_areAlike_27 : decode cX6_areAlike 27 = .ok (.invokestatic 43, 3) := by decide +kernel
theorem dX6_areAlike_30 : decode cX6_areAlike 30 = .ok (.istore_n 3, 1) := by decide +kernel
theorem dX6_areAlike_31 : decode cX6_areAlike 31 = .ok (.aload_n 0, 1) := by decide +kernel
theorem dX6_areAlike_32 : decode cX6_areAlike 32 = .ok (.getfield 28, 3) := by decide +kernel
theorem dX6_areAlike_35 : decode cX6_areAlike 35 = .ok (.aload_n 0, 1) := by decide +kernel
theorem dX6_areAlike_36 : decode cX6_areAlike 36 = .ok (.getfield 34, 3) := by decide +kernel
theorem dX6_areAlike_39 : decode cX6_areAlike 39 = .ok (.iload_n 2, 1) := by decide +kernel
theorem dX6_areAlike_40 : decode cX6_areAlike 40 = .ok (.invokestatic 43, 3) := by decide +kernel
theorem dX6_areAlike_43 : decode cX6_areAlike 43 = .ok (.invokestatic 43, 3) := by decide +kernel
theorem dX6_areAlike_46 : decode cX6_areAlike 46 = .ok (.istore 4, 2) := by decide +kernel
theorem dX6_areAlike_48 : decode cX6_areAlike 48 = .ok (.iload 4, 2) := by decide +kernel
theorem dX6_areAlike_50 : decode cX6_areAlike 50 = .ok (.bipush 15, 2) := by decide +kernel
theorem dX6_areAlike_52 : decode cX6_areAlike 52 = .ok (.iand, 1) := by decide +kernel
theorem dX6_areAlike_53 : decode cX6_areAlike 53 = .ok (.iload_n 3, 1) := by decide +kernel
theorem dX6_areAlike_54 : decode cX6_areAlike 54 = .ok (.bipush 15, 2) := by decide +kernel
theorem dX6_areAlike_56 : decode cX6_areAlike 56 = .ok (.iand, 1) := by decide +kernel
theorem dX6_areAlike_57 : decode cX6_areAlike 57 = .ok (.isub, 1) := by decide +kernel
theorem dX6_areAlike_58 : decode cX6_areAlike 58 = .ok (.istore 5, 2) := by decide +kernel
theorem dX6_areAlike_60 : decode cX6_areAlike 60 = .ok (.iload 4, 2) := by decide +kernel
theorem dX6_areAlike_62 : decode cX6_areAlike 62 = .ok (.iconst 4, 1) := by decide +kernel
theorem dX6_areAlike_63 : decode cX6_areAlike 63 = .ok (.ishr, 1) := by decide +kernel
theorem dX6_areAlike_64 : decode cX6_areAlike 64 = .ok (.iload_n 3, 1) := by decide +kernel
theorem dX6_areAlike_65 : decode cX6_areAlike 65 = .ok (.iconst 4, 1) := by decide +kernel
theorem dX6_areAlike_66 : decode cX6_areAlike 66 = .ok (.ishr, 1) := by decide +kernel
theorem dX6_areAlike_67 : decode cX6_areAlike 67 = .ok (.isub, 1) := by decide +kernel
theorem dX6_areAlike_68 : decode cX6_areAlike 68 = .ok (.istore 6, 2) := by decide +kernel
theorem dX6_areAlike_70 : decode cX6_areAlike 70 = .ok (.aload_n 0, 1) := by decide +kernel
theorem dX6_areAlike_71 : decode cX6_areAlike 71 = .ok (.getfield 34, 3) := by decide +kernel
theorem dX6_areAlike_74 : decode cX6_areAlike 74 = .ok (.iload_n 1, 1) := by decide +kernel
theorem dX6_areAlike_75 : decode cX6_areAlike 75 = .ok (.invokestatic 43, 3) := by decide +kernel
theorem dX6_areAlike_78 : decode cX6_areAlike 78 = .ok (.istore 7, 2) := by decide +kernel
theorem dX6_areAlike_80 : decode cX6_areAlike 80 = .ok (.iload 7, 2) := by decide +kernel
theorem dX6_areAlike_82 : decode cX6_areAlike 82 = .ok (.aload_n 0, 1) := by decide +kernel
theorem dX6_areAlike_83 : decode cX6_areAlike 83 = .ok (.getfield 34, 3) := by decide +kernel
theorem dX6_areAlike_86 : decode cX6_areAlike 86 = .ok (.iload_n 1, 1) := by decide +kernel
theorem dX6_areAlike_87 : decode cX6_areAlike 87 = .ok (.iconst 1, 1) := by decide +kernel
theorem dX6_areAlike_88 : decode cX6_areAlike 88 = .ok (.iadd, 1) := by decide +kernel
theorem dX6_areAlike_89 : decode cX6_areAlike 89 = .ok (.invokestatic 43, 3) := by decide +kernel
theorem dX6_areAlike_92 : decode cX6_areAlike 92 = .ok (.if_icmp .ge 70, 3) := by decide +kernel
theorem dX6_areAlike_95 : decode cX6_areAlike 95 = .ok (.aload_n 0, 1) := by decide +kernel
theorem dX6_areAlike_96 : decode cX6_areAlike 96 = .ok (.getfield 28, 3) := by decide +kernel
theorem dX6_areAlike_99 : decode cX6_areAlike 99 = .ok (.iload 7, 2) := by decide +kernel
theorem dX6_areAlike_101 : decode cX6_areAlike 101 = .ok (.invokestatic 43, 3) := by decide +kernel
theorem dX6_areAlike_104 : decode cX6_areAlike 104 = .ok (.bipush 15, 2) := by decide +kernel
theorem dX6_areAlike_106 : decode cX6_areAlike 106 = .ok (.iand, 1) := by decide +kernel
theorem dX6_areAlike_107 : decode cX6_areAlike 107 = .ok (.iload 5, 2) := by decide +kernel
theorem dX6_areAlike_109 : decode cX6_areAlike 109 = .ok (.iadd, 1) := by decide +kernel
theorem dX6_areAlike_110 : decode cX6_areAlike 110 = .ok (.aload_n 0, 1) := by decide +kernel
theorem dX6_areAlike_111 : decode cX6_areAlike 111 = .ok (.getfield 18, 3) := by decide +kernel
theorem dX6_areAlike_114 : decode cX6_areAlike 114 = .ok (.invokestatic 80, 3) := by decide +kernel
theorem dX6_areAlike_117 : decode cX6_areAlike 117 = .ok (.istore 8, 2) := by decide +kernel
theorem dX6_areAlike_119 : decode cX6_areAlike 119 = .ok (.aload_n 0, 1) := by decide +kernel
theorem dX6_areAlike_120 : decode cX6_areAlike 120 = .ok (.getfield 28, 3) := by decide +kernel
theorem dX6_areAlike_123 : decode cX6_areAlike 123 = .ok (.iload 7, 2) := by decide +kernel
theorem dX6_areAlike_125 : decode cX6_areAlike 125 = .ok (.invokestatic 43, 3) := by decide +kernel
theorem dX6_areAlike_128 : decode cX6_areAlike 128 = .ok (.iconst 4, 1) := by decide +kernel
theorem dX6_areAlike_129 : decode cX6_areAlike 129 = .ok (.ishr, 1) := by decide +kernel
theorem dX6_areAlike_130 : decode cX6_areAlike 130 = .ok (.iload 6, 2) := by decide +kernel
theorem dX6_areAlike_132 : decode cX6_areAlike 132 = .ok (.iadd, 1) := by decide +kernel
theorem dX6_areAlike_133 : decode cX6_areAlike 133 = .ok (.aload_n 0, 1) := by decide +kernel
theorem dX6_areAlike_134 : decode cX6_areAlike 134 = .ok (.getfield 21, 3) := by decide +kernel
theorem dX6_areAlike_137 : decode cX6_areAlike 137 = .ok (.invokestatic 80, 3) := by decide +kernel
theorem dX6_areAlike_140 : decode cX6_areAlike 140 = .ok (.istore 9, 2) := by decide +kernel
theorem dX6_areAlike_142 : decode cX6_areAlike 142 = .ok (.aload_n 0, 1) := by decide +kernel
theorem dX6_areAlike_143 : decode cX6_areAlike 143 = .ok (.iload 8, 2) := by decide +kernel
theorem dX6_areAlike_145 : decode cX6_areAlike 145 = .ok (.iload 9, 2) := by decide +kernel
theorem dX6_areAlike_147 : decode cX6_areAlike 147 = .ok (.invokevirtual 63, 3) := by decide +kernel
theorem dX6_areAlike_150 : decode cX6_areAlike 150 = .ok (.iload_n 2, 1) := by decide +kernel
theorem dX6_areAlike_151 : decode cX6_areAlike 151 = .ok (.if_icmp .eq 5, 3) := by decide +kernel
theorem dX6_areAlike_154 : decode cX6_areAlike 154 = .ok (.iconst 0, 1) := by decide +kernel
theorem dX6_areAlike_155 : decode cX6_areAlike 155 = .ok (.ireturn, 1) := by decide +kernel
theorem dX6_areAlike_156 : decode cX6_areAlike 156 = .ok (.iinc 7 1, 3) := by decide +kernel
theorem dX6_areAlike_159 : decode cX6_areAlike 159 = .ok (.goto (-79), 3) := by decide +kernel
theorem dX6_areAlike_162 : decode cX6_areAlike 162 = .ok (.iconst 1, 1) := by decide +kernel
theorem dX6_areAlike_163 : decode cX6_areAlike 163 = .ok (.ireturn, 1) := by decide +kernel
theorem dX7_init_0 : decode cX7_init 0 = .ok (.aload_n 0, 1) := by decide +kernel
theorem dX7_init_1 : decode cX7_init 1 = .ok (.invokespecial 3, 3) := by decide +kernel
theorem dX7_init_4 : decode cX7_init 4 = .ok (.aload_n 0, 1) := by decide +kernel
theorem dX7_init_5 : decode cX7_init 5 = .ok (.new 9, 3) := by decide +kernel
theorem dX7_init_8 : decode cX7_init 8 = .ok (.dup, 1) := by decide +kernel
theorem dX7_init_9 : decode cX7_init 9 = .ok (.invokespecial 11, 3) := by decide +kernel
theorem dX7_init_12 : decode cX7_init 12 = .ok (.putfield 12, 3) := by decide +kernel
theorem dX7_init_15 : decode cX7_init 15 = .ok (.aload_n 0, 1) := by decide +kernel
theorem dX7_init_16 : decode cX7_init 16 = .ok (.new 18, 3) := by decide +kernel
theorem dX7_init_19 : decode cX7_init 19 = .ok (.dup, 1) := by decide +kernel
theorem dX7_init_20 : decode cX7_init 20 = .ok (.invokespecial 20, 3) := by decide +kernel
theorem dX7_init_23 : decode cX7_init 23 = .ok (.putfield 21, 3) := by decide +kernel
theorem dX7_init_26 : decode cX7_init 26 = .ok (.aload_n 0, 1) := by decide +kernel
theorem dX7_init_27 : decode cX7_init 27 = .ok (.new 25, 3) := by decide +kernel
theorem dX7_init_30 : decode cX7_init 30 = .ok (.dup, 1) := by decide +kernel
theorem dX7_init_31 : decode cX7_init 31 = .ok (.iconst 5, 1) := by decide +kernel
theorem dX7_init_32 : decode cX7_init 32 = .ok (.invokespecial 27, 3) := by decide +kernel
theorem dX7_init_35 : decode cX7_init 35 = .ok (.putfield 30, 3) := by decide +kernel
theorem dX7_init_38 : decode cX7_init 38 = .ok (.aload_n 0, 1) := by decide +kernel
theorem dX7_init_39 : decode cX7_init 39 = .ok (.new 25, 3) := by decide +kernel
theorem dX7_init_42 : decode cX7_init 42 = .ok (.dup, 1) := by decide +kernel
theorem dX7_init_43 : decode cX7_init 43 = .ok (.bipush 8, 2) := by decide +kernel
theorem dX7_init_45 : decode cX7_init 45 = .ok (.invokespecial 27, 3) := by decide +kernel
theorem dX7_init_48 : decode cX7_init 48 = .ok (.putfield 34, 3) := by decide +kernel
theorem dX7_init_51 : decode cX7_init 51 = .ok (.return_, 1) := by decide +kernel
theorem dX7_copyOf_0 : decode cX7_copyOf 0 = .ok (.aload_n 0, 1) := by decide +kernel
theorem dX7_copyOf_1 : decode cX7_copyOf 1 = .ok (.getfield 12, 3) := by decide +kernel
theorem dX7_copyOf_4 : decode cX7_copyOf 4 = .ok (.aload_n 1, 1) := by decide +kernel
theorem dX7_copyOf_5 : decode cX7_copyOf 5 = .ok (.getfield 12, 3) := by decide +kernel
theorem dX7_copyOf_8 : decode cX7_copyOf 8 = .ok (.invokevirtual 37, 3) := by decide +kernel
theorem dX7_copyOf_11 : decode cX7_copyOf 11 = .ok (.aload_n 0, 1) := by decide +kernel
theorem dX7_copyOf_12 : decode cX7_copyOf 12 = .ok (.getfield 21, 3) := by decide +kernel
theorem dX7_copyOf_15 : decode cX7_copyOf 15 = .ok (.aload_n 1, 1) := by decide +kernel
theorem dX7_copyOf_16 : decode cX7_copyOf 16 = .ok (.getfield 21, 3) := by decide +kernel
theorem dX7_copyOf_19 : decode cX7_copyOf 19 = .ok (.invokevirtual 41, 3) := by decide +kernel
theorem dX7_copyOf_22 : decode cX7_copyOf 22 = .ok (.aload_n 0, 1) := by decide +kernel
theorem dX7_copyOf_23 : decode cX7_copyOf 23 = .ok (.getfield 30, 3) := by decide +kernel
theorem dX7_copyOf_26 : decode cX7_copyOf 26 = .ok (.aload_n 1, 1) := by decide +kernel
theorem dX7_copyOf_27 : decode cX7_copyOf 27 = .ok (.getfield 30, 3) := by decide +kernel
theorem dX7_copyOf_30 : decode cX7_copyOf 30 = .ok (.invokevirtual 44, 3) := by decide +kernel
theorem dX7_copyOf_33 : decode cX7_copyOf 33 = .ok (.aload_n 0, 1) := by decide +kernel
theorem dX7_copyOf_34 : decode cX7_copyOf 34 = .ok (.getfield 34, 3) := by decide +kernel
theorem dX7_copyOf_37 : decode cX7_copyOf 37 = .ok (.aload_n 1, 1) := by decide +kernel
theorem dX7_copyOf_38 : decode cX7_copyOf 38 = .ok (.getfield 34, 3) := by decide +kernel
theorem dX7_copyOf_41 : decode cX7_copyOf 41 = .ok (.invokevirtual 44, 3) := by decide +kernel
theorem dX7_copyOf_44 : decode cX7_copyOf 44 = .ok (.return_, 1) := by decide +kernel
theorem dX8_init_0 : decode cX8_init 0 = .ok (.aload_n 0, 1) := by decide +kernel
theorem dX8_init_1 : decode cX8_init 1 = .ok (.invokespecial 3, 3) := by decide +kernel
theorem dX8_init_4 : decode cX8_init 4 = .ok (.aload_n 0, 1) := by decide +kernel
theorem dX8_init_5 : decode cX8_init 5 = .ok (.new 9, 3) := by decide +kernel
theorem dX8_init_8 : decode cX8_init 8 = .ok (.dup, 1) := by decide +kernel
theorem dX8_init_9 : decode cX8_init 9 = .ok (.invokespecial 11, 3) := by decide +kernel
theorem dX8_init_12 : decode cX8_init 12 = .ok (.putfield 12, 3) := by decide +kernel
theorem dX8_init_15 : decode cX8_init 15 = .ok (.aload_n 0, 1) := by decide +kernel
theorem dX8_init_16 : decode cX8_init 16 = .ok (.new 9, 3) := by decide +kernel
theorem dX8_init_19 : decode cX8_init 19 = .ok (.dup, 1) := by decide +kernel
theorem dX8_init_20 : decode cX8_init 20 = .ok (.invokespecial 11, 3) := by decide +kernel
theorem dX8_init_23 : decode cX8_init 23 = .ok (.putfield 18, 3) := by decide +kernel
theorem dX8_init_26 : decode cX8_init 26 = .ok (.aload_n 0, 1) := by decide +kernel
theorem dX8_init_27 : decode cX8_init 27 = .ok (.iconst 0, 1) := by decide +kernel
theorem dX8_init_28 : decode cX8_init 28 = .ok (.putfield 21, 3) := by decide +kernel
theorem dX8_init_31 : decode cX8_init 31 = .ok (.aload_n 0, 1) := by decide +kernel
theorem dX8_init_32 : decode cX8_init 32 = .ok (.new 25, 3) := by decide +kernel
theorem dX8_init_35 : decode cX8_init 35 = .ok (.dup, 1) := by decide +kernel
theorem dX8_init_36 : decode cX8_init 36 = .ok (.bipush 12, 2) := by decide +kernel
theorem dX8_init_38 : decode cX8_init 38 = .ok (.invokespecial 27, 3) := by decide +kernel
theorem dX8_init_41 : decode cX8_init 41 = .ok (.putfield 30, 3) := by decide +kernel
theorem dX8_init_44 : decode cX8_init 44 = .ok (.aload_n 0, 1) := by decide +kernel
theorem dX8_init_45 : decode cX8_init 45 = .ok (.new 34, 3) := by decide +kernel
theorem dX8_init_48 : decode cX8_init 48 = .ok (.dup, 1) := by decide +kernel
theorem dX8_init_49 : decode cX8_init 49 = .ok (.invokespecial 36, 3) := by decide +kernel
theorem dX8_init_52 : decode cX8_init 52 = .ok (.putfield 37, 3) := by decide +kernel
theorem dX8_init_55 : decode cX8_init 55 = .ok (.aload_n 0, 1) := by decide +kernel
theorem dX8_init_56 : decode cX8_init 56 = .ok (.new 41, 3) := by decide +kernel
theorem dX8_init_59 : decode cX8_init 59 = .ok (.dup, 1) := by decide +kernel
theorem dX8_init_60 : decode cX8_init 60 = .ok (.invokespecial 43, 3) := by decide +kernel
theorem dX8_init_63 : decode cX8_init 63 = .ok (.putfield 44, 3) := by decide +kernel
theorem dX8_init_66 : decode cX8_init 66 = .ok (.aload_n 0, 1) := by decide +kernel
theorem dX8_init_67 : decode cX8_init 67 = .ok (.new 48, 3) := by decide +kernel
theorem dX8_init_70 : decode cX8_init 70 = .ok (.dup, 1) := by decide +kernel
theorem dX8_init_71 : decode cX8_init 71 = .ok (.sipush 300, 3) := by decide +kernel
theorem dX8_init_74 : decode cX8_init 74 = .ok (.invokespecial 50, 3) := by decide +kernel
theorem dX8_init_77 : decode cX8_init 77 = .ok (.putfield 51, 3) := by decide +kernel
theorem dX8_init_80 : decode cX8_init 80 = .ok (.aload_n 0, 1) := by decide +kernel
theorem dX8_init_81 : decode cX8_init 81 = .ok (.new 48, 3) := by decide +kernel
theorem dX8_init_84 : decode cX8_init 84 = .ok (.dup, 1) := by decide +kernel
theorem dX8_init_85 : decode cX8_init 85 = .ok (.sipush 271, 3) := by decide +kernel
theorem dX8_init_88 : decode cX8_init 88 = .ok (.invokespecial 50, 3) := by decide +kernel
theorem dX8_init_91 : decode cX8_init 91 = .ok (.putfield 55, 3) := by decide +kernel
theorem dX8_init_94 : decode cX8_init 94 = .ok (.aload_n 0, 1) := by decide +kernel
theorem dX8_init_95 : decode cX8_init 95 = .ok (.iconst 4, 1) := by decide +kernel
theorem dX8_init_96 : decode cX8_init 96 = .ok (.anewarray 58, 3) := by decide +kernel
theorem dX8_init_99 : decode cX8_init 99 = .ok (.putfield 60, 3) := by decide +kernel
theorem dX8_init_102 : decode cX8_init 102 = .ok (.iconst 0, 1) := by decide +kernel
theorem dX8_init_103 : decode cX8_init 103 = .ok (.istore_n 1, 1) := by decide +kernel
theorem dX8_init_104 : decode cX8_init 104 = .ok (.iload_n 1, 1) := by decide +kernel
theorem dX8_init_105 : decode cX8_init 105 = .ok (.aload_n 0, 1) := by decide +kernel
theorem dX8_init_106 : decode cX8_init 106 = .ok (.getfield 60, 3) := by decide +kernel
theorem dX8_init_109 : decode cX8_init 109 = .ok (.arraylength, 1) := by decide +kernel
theorem dX8_init_110 : decode cX8_init 110 = .ok (.if_icmp .ge 22, 3) := by decide +kernel
theorem dX8_init_113 : decode cX8_init 113 = .ok (.aload_n 0, 1) := by decide +kernel
theorem dX8_init_114 : decode cX8_init 114 = .ok (.getfield 60, 3) := by decide +kernel
theorem dX8_init_117 : decode cX8_init 117 = .ok (.iload_n 1, 1) := by decide +kernel
theorem dX8_init_118 : decode cX8_init 118 = .ok (.new 58, 3) := by decide +kernel
theorem dX8_init_121 : decode cX8_init 121 = .ok (.dup, 1) := by decide +kernel
theorem dX8_init_122 : decode cX8_init 122 = .ok (.invokespecial 64, 3) := by decide +kernel
theorem dX8_init_125 : decode cX8_init 125 = .ok (.aastore, 1) := by decide +kernel
theorem dX8_init_126 : decode cX8_init 126 = .ok (.iinc 1 1, 3) := by decide +kernel
theorem dX8_init_129 : decode cX8_init 129 = .ok (.goto (-25), 3) := by decide +kernel
theorem dX8_init_132 : decode cX8_init 132 = .ok (.return_, 1) := by decide +kernel
theorem dX8_size_0 : decode cX8_size 0 = .ok (.iload_n 1, 1) := by decide +kernel
theorem dX8_size_1 : decode cX8_size 1 = .ok (.invokestatic 65, 3) := by decide +kernel
theorem dX8_size_4 : decode cX8_size 4 = .ok (.ifCond .eq 10, 3) := by decide +kernel
theorem dX8_size_7 : decode cX8_size 7 = .ok (.iload_n 2, 1) := by decide +kernel
theorem dX8_size_8 : decode cX8_size 8 = .ok (.invokestatic 65, 3) := by decide +kernel
theorem dX8_size_11 : decode cX8_size 11 = .ok (.ifCond .ne 6, 3) := by decide +kernel
theorem dX8_size_14 : decode cX8_size 14 = .ok (.bipush (-2), 2) := by decide +kernel
theorem dX8_size_16 : decode cX8_size 16 = .ok (.ireturn, 1) := by decide +kernel
theorem dX8_size_17 : decode cX8_size 17 = .ok (.bipush 100, 2) := by decide +kernel
theorem dX8_size_19 : decode cX8_size 19 = .ok (.aload_n 0, 1) := by decide +kernel
theorem dX8_size_20 : decode cX8_size 20 = .ok (.getfield 12, 3) := by decide +kernel
theorem dX8_size_23 : decode cX8_size 23 = .ok (.getfield 69, 3) := by decide +kernel
theorem dX8_size_26 : decode cX8_size 26 = .ok (.getfield 73, 3) := by decide +kernel
theorem dX8_size_29 : decode cX8_size 29 = .ok (.imul, 1) := by decide +kernel
theorem dX8_size_30 : decode cX8_size 30 = .ok (.aload_n 0, 1) := by decide +kernel
theorem dX8_size_31 : decode cX8_size 31 = .ok (.getfield 12, 3) := by decide +kernel
theorem dX8_size_34 : decode cX8_size 34 = .ok (.getfield 69, 3) := by decide +kernel
theorem dX8_size_37 : decode cX8_size 37 = .ok (.getfield 79, 3) := by decide +kernel
theorem dX8_size_40 : decode cX8_size 40 = .ok (.iadd, 1) := by decide +kernel
theorem dX8_size_41 : decode cX8_size 41 = .ok (.istore_n 3, 1) := by decide +kernel
theorem dX8_size_42 : decode cX8_size 42 = .ok (.aload_n 0, 1) := by decide +kernel
theorem dX8_size_43 : decode cX8_size 43 = .ok (.getfield 12, 3) := by decide +kernel
theorem dX8_size_46 : decode cX8_size 46 = .ok (.getfield 69, 3) := by decide +kernel
theorem dX8_size_49 : decode cX8_size 49 = .ok (.iload_n 1, 1) := by decide +kernel
theorem dX8_size_50 : decode cX8_size 50 = .ok (.iload_n 2, 1) := by decide +kernel
theorem dX8_size_51 : decode cX8_size 51 = .ok (.invokevirtual 82, 3) := by decide +kernel
theorem dX8_size_54 : decode cX8_size 54 = .ok (.aload_n 0, 1) := by decide +kernel
theorem dX8_size_55 : decode cX8_size 55 = .ok (.getfield 12, 3) := by decide +kernel
theorem dX8_size_58 : decode cX8_size 58 = .ok (.getfield 69, 3) := by decide +kernel
theorem dX8_size_61 : decode cX8_size 61 = .ok (.iconst 0, 1) := by decide +kernel
theorem dX8_size_62 : decode cX8_size 62 = .ok (.putfield 86, 3) := by decide +kernel
theorem dX8_size_65 : decode cX8_size 65 = .ok (.aload_n 0, 1) := by decide +kernel
theorem dX8_size_66 : decode cX8_size 66 = .ok (.getfield 30, 3) := by decide +kernel
theorem dX8_size_69 : decode cX8_size 69 = .ok (.invokevirtual 89, 3) := by decide +kernel
theorem dX8_size_72 : decode cX8_size 72 = .ok (.iload_n 3, 1) := by decide +kernel
theorem dX8_size_73 : decode cX8_size 73 = .ok (.ireturn, 1) := by decide +kernel
theorem dX8_toggle_0 : decode cX8_toggle 0 = .ok (.aload_n 0, 1) := by decide +kernel
theorem dX8_toggle_1 : decode cX8_toggle 1 = .ok (.getfield 12, 3) := by decide +kernel
theorem dX8_toggle_4 : decode cX8_toggle 4 = .ok (.getfield 69, 3) := by decide +kernel
theorem dX8_toggle_7 : decode cX8_toggle 7 = .ok (.iload_n 1, 1) := by decide +kernel
theorem dX8_toggle_8 : decode cX8_toggle 8 = .ok (.iload_n 2, 1) := by decide +kernel
theorem dX8_toggle_9 : decode cX8_toggle 9 = .ok (.invokevirtual 92, 3) := by decide +kernel
theorem dX8_toggle_12 : decode cX8_toggle 12 = .ok (.ifCond .ne 5, 3) := by decide +kernel
theorem dX8_toggle_15 : decode cX8_toggle 15 = .ok (.iconst (-1), 1) := by decide +kernel
theorem dX8_toggle_16 : decode cX8_toggle 16 = .ok (.ireturn, 1) := by decide +kernel
theorem dX8_toggle_17 : decode cX8_toggle 17 = .ok (.aload_n 0, 1) := by decide +kernel
theorem dX8_toggle_18 : decode cX8_toggle 18 = .ok (.getfield 12, 3) := by decide +kernel
theorem dX8_toggle_21 : decode cX8_toggle 21 = .ok (.getfield 69, 3) := by decide +kernel
theorem dX8_toggle_24 : decode cX8_toggle 24 = .ok (.iload_n 1, 1) := by decide +kernel
theorem dX8_toggle_25 : decode cX8_toggle 25 = .ok (.iload_n 2, 1) := by decide +kernel
theorem dX8_toggle_26 : decode cX8_toggle 26 = .ok (.invokevirtual 96, 3) := by decide +kernel
theorem dX8_toggle_29 : decode cX8_toggle 29 = .ok (.aload_n 0, 1) := by decide +kernel
theorem dX8_toggle_30 : decode cX8_toggle 30 = .ok (.getfield 30, 3) := by decide +kernel
theorem dX8_toggle_33 : decode cX8_toggle 33 = .ok (.invokevirtual 99, 3) := by decide +kernel
theorem dX8_toggle_36 : decode cX8_toggle 36 = .ok (.ifCond .eq 10, 3) := by decide +kernel
theorem dX8_toggle_39 : decode cX8_toggle 39 = .ok (.aload_n 0, 1) := by decide +kernel
theorem dX8_toggle_40 : decode cX8_toggle 40 = .ok (.getfield 30, 3) := by decide +kernel
theorem dX8_toggle_43 : decode cX8_toggle 43 = .ok (.invokevirtual 103, 3) := by decide +kernel
theorem dX8_toggle_46 : decode cX8_toggle 46 = .ok (.aload_n 0, 1) := by decide +kernel
theorem dX8_toggle_47 : decode cX8_toggle 47 = .ok (.getfield 30, 3) := by decide +kernel
theorem dX8_toggle_50 : decode cX8_toggle 50 = .ok (.iload_n 1, 1) := by decide +kernel
theorem dX8_toggle_51 : decode cX8_toggle 51 = .ok (.iload_n 2, 1) := by decide +kernel
theorem dX8_toggle_52 : decode cX8_toggle 52 = .ok (.aload_n 0, 1) := by decide +kernel
theorem dX8_toggle_53 : decode cX8_toggle 53 = .ok (.getfield 12, 3) := by decide +kernel
theorem dX8_toggle_56 : decode cX8_toggle 56 = .ok (.getfield 69, 3) := by decide +kernel
theorem dX8_toggle_59 : decode cX8_toggle 59 = .ok (.getfield 86, 3) := by decide +kernel
theorem dX8_toggle_62 : decode cX8_toggle 62 = .ok (.invokevirtual 106, 3) := by decide +kernel
theorem dX8_toggle_65 : decode cX8_toggle 65 = .ok (.aload_n 0, 1) := by decide +kernel
theorem dX8_toggle_66 : decode cX8_toggle 66 = .ok (.getfield 12, 3) := by decide +kernel
theorem dX8_toggle_69 : decode cX8_toggle 69 = .ok (.getfield 69, 3) := by decide +kernel
theorem dX8_toggle_72 : decode cX8_toggle 72 = .ok (.iload_n 1, 1) := by decide +kernel
theorem dX8_toggle_73 : decode cX8_toggle 73 = .ok (.iload_n 2, 1) := by decide +kernel
theorem dX8_toggle_74 : decode cX8_toggle 74 = .ok (.invokevirtual 110, 3) := by decide +kernel
theorem dX8_toggle_77 : decode cX8_toggle 77 = .ok (.ireturn, 1) := by decide +kernel
theorem dX8_undo_0 : decode cX8_undo 0 = .ok (.aload_n 0, 1) := by decide +kernel
theorem dX8_undo_1 : decode cX8_undo 1 = .ok (.getfield 30, 3) := by decide +kernel
theorem dX8_undo_4 : decode cX8_undo 4 = .ok (.getfield 114, 3) := by decide +kernel
theorem dX8_undo_7 : decode cX8_undo 7 = .ok (.iconst 1, 1) := by decide +kernel
theorem dX8_undo_8 : decode cX8_undo 8 = .ok (.isub, 1) := by decide +kernel
theorem dX8_undo_9 : decode cX8_undo 9 = .ok (.istore_n 1, 1) := by decide +kernel
theorem dX8_undo_10 : decode cX8_undo 10 = .ok (.iload_n 1, 1) := by decide +kernel
theorem dX8_undo_11 : decode cX8_undo 11 = .ok (.ifCond .lt 24, 3) := by decide +kernel
theorem dX8_undo_14 : decode cX8_undo 14 = .ok (.aload_n 0, 1) := by decide +kernel
theorem dX8_undo_15 : decode cX8_undo 15 = .ok (.getfield 30, 3) := by decide +kernel
theorem dX8_undo_18 : decode cX8_undo 18 = .ok (.iload_n 1, 1) := by decide +kernel
theorem dX8_undo_19 : decode cX8_undo 19 = .ok (.invokevirtual 117, 3) := by decide +kernel
theorem dX8_undo_22 : decode cX8_undo 22 = .ok (.aload_n 0, 1) := by decide +kernel
theorem dX8_undo_23 : decode cX8_undo 23 = .ok (.getfield 12, 3) := by decide +kernel
theorem dX8_undo_26 : decode cX8_undo 26 = .ok (.getfield 69, 3) := by decide +kernel
theorem dX8_undo_29 : decode cX8_undo 29 = .ok (.getfield 86, 3) := by decide +kernel
theorem dX8_undo_32 : decode cX8_undo 32 = .ok (.if_icmp .eq 6, 3) := by decide +kernel
theorem dX8_undo_35 : decode cX8_undo 35 = .ok (.bipush (-3), 2) := by decide +kernel
theorem dX8_undo_37 : decode cX8_undo 37 = .ok (.ireturn, 1) := by decide +kernel
theorem dX8_undo_38 : decode cX8_undo 38 = .ok (.aload_n 0, 1) := by decide +kernel
theorem dX8_undo_39 : decode cX8_undo 39 = .ok (.getfield 30, 3) := by decide +kernel
theorem dX8_undo_42 : decode cX8_undo 42 = .ok (.iload_n 1, 1) := by decide +kernel
theorem dX8_undo_43 : decode cX8_undo 43 = .ok (.invokevirtual 121, 3) := by decide +kernel
theorem dX8_undo_46 : decode cX8_undo 46 = .ok (.istore_n 2, 1) := by decide +kernel
theorem dX8_undo_47 : decode cX8_undo 47 = .ok (.aload_n 0, 1) := by decide +kernel
theorem dX8_undo_48 : decode cX8_undo 48 = .ok (.getfield 30, 3) := by decide +kernel
theorem dX8_undo_51 : decode cX8_undo 51 = .ok (.iload_n 1, 1) := by decide +kernel
theorem dX8_undo_52 : decode cX8_undo 52 = .ok (.invokevirtual 124, 3) := by decide +kernel
theorem dX8_undo_55 : decode cX8_undo 55 = .ok (.istore_n 3, 1) := by decide +kernel
theorem dX8_undo_56 : decode cX8_undo 56 = .ok (.aload_n 0, 1) := by decide +kernel
theorem dX8_undo_57 : decode cX8_undo 57 = .ok (.getfield 12, 3) := by decide +kernel
theorem dX8_undo_60 : decode cX8_undo 60 = .ok (.getfield 69, 3) := by decide +kernel
theorem dX8_undo_63 : decode cX8_undo 63 = .ok (.iload_n 2, 1) := by decide +kernel
theorem dX8_undo_64 : decode cX8_undo 64 = .ok (.iload_n 3, 1) := by decide +kernel
theorem dX8_undo_65 : decode cX8_undo 65 = .ok (.invokevirtual 96, 3) := by decide +kernel
theorem dX8_undo_68 : decode cX8_undo 68 = .ok (.aload_n 0, 1) := by decide +kernel
theorem dX8_undo_69 : decode cX8_undo 69 = .ok (.getfield 30, 3) := by decide +kernel
theorem dX8_undo_72 : decode cX8_undo 72 = .ok (.invokevirtual 127, 3) := by decide +kernel
theorem dX8_undo_75 : decode cX8_undo 75 = .ok (.bipush 100, 2) := by decide +kernel
theorem dX8_undo_77 : decode cX8_undo 77 = .ok (.iload_n 2, 1) := by decide +kernel
theorem dX8_undo_78 : decode cX8_undo 78 = .ok (.imul, 1) := by decide +kernel
theorem dX8_undo_79 : decode cX8_undo 79 = .ok (.iload_n 3, 1) := by decide +kernel
theorem dX8_undo_80 : decode cX8_undo 80 = .ok (.iadd, 1) := by decide +kernel
theorem dX8_undo_81 : decode cX8_undo 81 = .ok (.ireturn, 1) := by decide +kernel
theorem dX8_cell_0 : decode cX8_cell 0 = .ok (.aload_n 0, 1) := by decide +kernel
theorem dX8_cell_1 : decode cX8_cell 1 = .ok (.getfield 12, 3) := by decide +kernel
theorem dX8_cell_4 : decode cX8_cell 4 = .ok (.getfield 69, 3) := by decide +kernel
theorem dX8_cell_7 : decode cX8_cell 7 = .ok (.iload_n 1, 1) := by decide +kernel
theorem dX8_cell_8 : decode cX8_cell 8 = .ok (.iload_n 2, 1) := by decide +kernel
theorem dX8_cell_9 : decode cX8_cell 9 = .ok (.invokevirtual 92, 3) := by decide +kernel
theorem dX8_cell_12 : decode cX8_cell 12 = .ok (.ifCond .eq 18, 3) := by decide +kernel
theorem dX8_cell_15 : decode cX8_cell 15 = .ok (.aload_n 0, 1) := by decide +kernel
theorem dX8_cell_16 : decode cX8_cell 16 = .ok (.getfield 12, 3) := by decide +kernel
theorem dX8_cell_19 : decode cX8_cell 19 = .ok (.getfield 69, 3) := by decide +kernel
theorem dX8_cell_22 : decode cX8_cell 22 = .ok (.iload_n 1, 1) := by decide +kernel
theorem dX8_cell_23 : decode cX8_cell 23 = .ok (.iload_n 2, 1) := by decide +kernel
theorem dX8_cell_24 : decode cX8_cell 24 = .ok (.invokevirtual 110, 3) := by decide +kernel
theorem dX8_cell_27 : decode cX8_cell 27 = .ok (.goto 4, 3) := by decide +kernel
theorem dX8_cell_30 : decode cX8_cell 30 = .ok (.iconst (-1), 1) := by decide +kernel
theorem dX8_cell_31 : decode cX8_cell 31 = .ok (.ireturn, 1) := by decide +kernel
theorem dX8_told_0 : decode cX8_told 0 = .ok (.iload_n 1, 1) := by decide +kernel
theorem dX8_told_1 : decode cX8_told 1 = .ok (.tableswitch 127 0 7 #[47, 58, 69, 84, 95, 106, 111, 119], 47) := by decide +kernel
theorem dX8_told_48 : decode cX8_told 48 = .ok (.aload_n 0, 1) := by decide +kernel
theorem dX8_told_49 : decode cX8_told 49 = .ok (.getfield 12, 3) := by decide +kernel
theorem dX8_told_52 : decode cX8_told 52 = .ok (.getfield 69, 3) := by decide +kernel
theorem dX8_told_55 : decode cX8_told 55 = .ok (.getfield 73, 3) := by decide +kernel
theorem dX8_told_58 : decode cX8_told 58 = .ok (.ireturn, 1) := by decide +kernel
theorem dX8_told_59 : decode cX8_told 59 = .ok (.aload_n 0, 1) := by decide +kernel
theorem dX8_told_60 : decode cX8_told 60 = .ok (.getfield 12, 3) := by decide +kernel
theorem dX8_told_63 : decode cX8_told 63 = .ok (.getfield 69, 3) := by decide +kernel
theorem dX8_told_66 : decode cX8_told 66 = .ok (.getfield 79, 3) := by decide +kernel
theorem dX8_told_69 : decode cX8_told 69 = .ok (.ireturn, 1) := by decide +kernel
theorem dX8_told_70 : decode cX8_told 70 = .ok (.aload_n 0, 1) := by decide +kernel
theorem dX8_told_71 : decode cX8_told 71 = .ok (.getfield 12, 3) := by decide +kernel
theorem dX8_told_74 : decode cX8_told 74 = .ok (.getfield 69, 3) := by decide +kernel
theorem dX8_told_77 : decode cX8_told 77 = .ok (.getfield 86, 3) := by decide +kernel
theorem dX8_told_80 : decode cX8_told 80 = .ok (.sipush 10000, 3) := by decide +kernel
theorem dX8_told_83 : decode cX8_told 83 = .ok (.iadd, 1) := by decide +kernel
theorem dX8_told_84 : decode cX8_told 84 = .ok (.ireturn, 1) := by decide +kernel
theorem dX8_told_85 : decode cX8_told 85 = .ok (.aload_n 0, 1) := by decide +kernel
theorem dX8_told_86 : decode cX8_told 86 = .ok (.getfield 12, 3) := by decide +kernel
theorem dX8_told_89 : decode cX8_told 89 = .ok (.getfield 69, 3) := by decide +kernel
theorem dX8_told_92 : decode cX8_told 92 = .ok (.invokevirtual 130, 3) := by decide +kernel
theorem dX8_told_95 : decode cX8_told 95 = .ok (.ireturn, 1) := by decide +kernel
theorem dX8_told_96 : decode cX8_told 96 = .ok (.aload_n 0, 1) := by decide +kernel
theorem dX8_told_97 : decode cX8_told 97 = .ok (.getfield 12, 3) := by decide +kernel
theorem dX8_told_100 : decode cX8_told 100 = .ok (.getfield 69, 3) := by decide +kernel
theorem dX8_told_103 : decode cX8_told 103 = .ok (.invokevirtual 134, 3) := by decide +kernel
theorem dX8_told_106 : decode cX8_told 106 = .ok (.ireturn, 1) := by decide +kernel
theorem dX8_told_107 : decode cX8_told 107 = .ok (.aload_n 0, 1) := by decide +kernel
theorem dX8_told_108 : decode cX8_told 108 = .ok (.invokevirtual 137, 3) := by decide +kernel
theorem dX8_told_111 : decode cX8_told 111 = .ok (.ireturn, 1) := by decide +kernel
theorem dX8_told_112 : decode cX8_told 112 = .ok (.aload_n 0, 1) := by decide +kernel
theorem dX8_told_113 : decode cX8_told 113 = .ok (.invokevirtual 140, 3) := by decide +kernel
theorem dX8_told_116 : decode cX8_told 116 = .ok (.getfield 144, 3) := by decide +kernel
theorem dX8_told_119 : decode cX8_told 119 = .ok (.ireturn, 1) := by decide +kernel
theorem dX8_told_120 : decode cX8_told 120 = .ok (.aload_n 0, 1) := by decide +kernel
theorem dX8_told_121 : decode cX8_told 121 = .ok (.invokevirtual 140, 3) := by decide +kernel
theorem dX8_told_124 : decode cX8_told 124 = .ok (.getfield 145, 3) := by decide +kernel
theorem dX8_told_127 : decode cX8_told 127 = .ok (.ireturn, 1) := by decide +kernel
theorem dX8_told_128 : decode cX8_told 128 = .ok (.iconst (-1), 1) := by decide +kernel
theorem dX8_told_129 : decode cX8_told 129 = .ok (.ireturn, 1) := by decide +kernel
theorem dX8_rule_0 : decode cX8_rule 0 = .ok (.iload_n 1, 1) := by decide +kernel
theorem dX8_rule_1 : decode cX8_rule 1 = .ok (.ifCond .lt 8, 3) := by decide +kernel
theorem dX8_rule_4 : decode cX8_rule 4 = .ok (.iload_n 1, 1) := by decide +kernel
theorem dX8_rule_5 : decode cX8_rule 5 = .ok (.iconst 5, 1) := by decide +kernel
theorem dX8_rule_6 : decode cX8_rule 6 = .ok (.if_icmp .lt 5, 3) := by decide +kernel
theorem dX8_rule_9 : decode cX8_rule 9 = .ok (.iconst (-1), 1) := by decide +kernel
theorem dX8_rule_10 : decode cX8_rule 10 = .ok (.ireturn, 1) := by decide +kernel
theorem dX8_rule_11 : decode cX8_rule 11 = .ok (.aload_n 0, 1) := by decide +kernel
theorem dX8_rule_12 : decode cX8_rule 12 = .ok (.getfield 12, 3) := by decide +kernel
theorem dX8_rule_15 : decode cX8_rule 15 = .ok (.getfield 148, 3) := by decide +kernel
theorem dX8_rule_18 : decode cX8_rule 18 = .ok (.iload_n 1, 1) := by decide +kernel
theorem dX8_rule_19 : decode cX8_rule 19 = .ok (.invokevirtual 152, 3) := by decide +kernel
theorem dX8_rule_22 : decode cX8_rule 22 = .ok (.ifCond .eq 7, 3) := by decide +kernel
theorem dX8_rule_25 : decode cX8_rule 25 = .ok (.iconst 1, 1) := by decide +kernel
theorem dX8_rule_26 : decode cX8_rule 26 = .ok (.goto 4, 3) := by decide +kernel
theorem dX8_rule_29 : decode cX8_rule 29 = .ok (.iconst 0, 1) := by decide +kernel
theorem dX8_rule_30 : decode cX8_rule 30 = .ok (.ireturn, 1) := by decide +kernel
theorem dX8_change_0 : decode cX8_change 0 = .ok (.iload_n 1, 1) := by decide +kernel
theorem dX8_change_1 : decode cX8_change 1 = .ok (.invokestatic 157, 3) := by decide +kernel
theorem dX8_change_4 : decode cX8_change 4 = .ok (.ifCond .eq 15, 3) := by decide +kernel
theorem dX8_change_7 : decode cX8_change 7 = .ok (.iload_n 2, 1) := by decide +kernel
theorem dX8_change_8 : decode cX8_change 8 = .ok (.invokestatic 157, 3) := by decide +kernel
theorem dX8_change_11 : decode cX8_change 11 = .ok (.ifCond .eq 8, 3) := by decide +kernel
theorem dX8_change_14 : decode cX8_change 14 = .ok (.iload_n 1, 1) := by decide +kernel
theorem dX8_change_15 : decode cX8_change 15 = .ok (.iload_n 2, 1) := by decide +kernel
theorem dX8_change_16 : decode cX8_change 16 = .ok (.if_icmp .ne 5, 3) := by decide +kernel
theorem dX8_change_19 : decode cX8_change 19 = .ok (.iconst (-1), 1) := by decide +kernel
theorem dX8_change_20 : decode cX8_change 20 = .ok (.ireturn, 1) := by decide +kernel
theorem dX8_change_21 : decode cX8_change 21 = .ok (.aload_n 0, 1) := by decide +kernel
theorem dX8_change_22 : decode cX8_change 22 = .ok (.getfield 12, 3) := by decide +kernel
theorem dX8_change_25 : decode cX8_change 25 = .ok (.getfield 148, 3) := by decide +kernel
theorem dX8_change_28 : decode cX8_change 28 = .ok (.iload_n 1, 1) := by decide +kernel
theorem dX8_change_29 : decode cX8_change 29 = .ok (.iload_n 2, 1) := by decide +kernel
theorem dX8_change_30 : decode cX8_change 30 = .ok (.invokevirtual 160, 3) := by decide +kernel
theorem dX8_change_33 : decode cX8_change 33 = .ok (.aload_n 0, 1) := by decide +kernel
theorem dX8_change_34 : decode cX8_change 34 = .ok (.getfield 12, 3) := by decide +kernel
theorem dX8_change_37 : decode cX8_change 37 = .ok (.getfield 148, 3) := by decide +kernel
theorem dX8_change_40 : decode cX8_change 40 = .ok (.iload_n 1, 1) := by decide +kernel
theorem dX8_change_41 : decode cX8_change 41 = .ok (.invokevirtual 163, 3) := by decide +kernel
theorem dX8_change_44 : decode cX8_change 44 = .ok (.ireturn, 1) := by decide +kernel
theorem dX8_becomes_0 : decode cX8_becomes 0 = .ok (.iload_n 1, 1) := by decide +kernel
theorem dX8_becomes_1 : decode cX8_becomes 1 = .ok (.invokestatic 157, 3) := by decide +kernel
theorem dX8_becomes_4 : decode cX8_becomes 4 = .ok (.ifCond .ne 5, 3) := by decide +kernel
theorem dX8_becomes_7 : decode cX8_becomes 7 = .ok (.iconst (-1), 1) := by decide +kernel
theorem dX8_becomes_8 : decode cX8_becomes 8 = .ok (.ireturn, 1) := by decide +kernel
theorem dX8_becomes_9 : decode cX8_becomes 9 = .ok (.iload_n 2, 1) := by decide +kernel
theorem dX8_becomes_10 : decode cX8_becomes 10 = .ok (.ifCond .eq 17, 3) := by decide +kernel
theorem dX8_becomes_13 : decode cX8_becomes 13 = .ok (.aload_n 0, 1) := by decide +kernel
theorem dX8_becomes_14 : decode cX8_becomes 14 = .ok (.getfield 12, 3) := by decide +kernel
theorem dX8_becomes_17 : decode cX8_becomes 17 = .ok (.getfield 148, 3) := by decide +kernel
theorem dX8_becomes_20 : decode cX8_becomes 20 = .ok (.iload_n 1, 1) := by decide +kernel
theorem dX8_becomes_21 : decode cX8_becomes 21 = .ok (.invokevirtual 166, 3) := by decide +kernel
theorem dX8_becomes_24 : decode cX8_becomes 24 = .ok (.goto 14, 3) := by decide +kernel
theorem dX8_becomes_27 : decode cX8_becomes 27 = .ok (.aload_n 0, 1) := by decide +kernel
theorem dX8_becomes_28 : decode cX8_becomes 28 = .ok (.getfield 12, 3) := by decide +kernel
theorem dX8_becomes_31 : decode cX8_becomes 31 = .ok (.getfield 148, 3) := by decide +kernel
theorem dX8_becomes_34 : decode cX8_becomes 34 = .ok (.iload_n 1, 1) := by decide +kernel
theorem dX8_becomes_35 : decode cX8_becomes 35 = .ok (.invokevirtual 163, 3) := by decide +kernel
theorem dX8_becomes_38 : decode cX8_becomes 38 = .ok (.ireturn, 1) := by decide +kernel
theorem dX8_steps_0 : decode cX8_steps 0 = .ok (.iload_n 1, 1) := by decide +kernel
theorem dX8_steps_1 : decode cX8_steps 1 = .ok (.sipush (-200), 3) := by decide +kernel
theorem dX8_steps_4 : decode cX8_steps 4 = .ok (.if_icmp .lt 10, 3) := by decide +kernel
theorem dX8_steps_7 : decode cX8_steps 7 = .ok (.iload_n 1, 1) := by decide +kernel
theorem dX8_steps_8 : decode cX8_steps 8 = .ok (.sipush 200, 3) := by decide +kernel
theorem dX8_steps_11 : decode cX8_steps 11 = .ok (.if_icmp .le 6, 3) := by decide +kernel
theorem dX8_steps_14 : decode cX8_steps 14 = .ok (.bipush (-2), 2) := by decide +kernel
theorem dX8_steps_16 : decode cX8_steps 16 = .ok (.ireturn, 1) := by decide +kernel
theorem dX8_steps_17 : decode cX8_steps 17 = .ok (.aload_n 0, 1) := by decide +kernel
theorem dX8_steps_18 : decode cX8_steps 18 = .ok (.getfield 12, 3) := by decide +kernel
theorem dX8_steps_21 : decode cX8_steps 21 = .ok (.getfield 69, 3) := by decide +kernel
theorem dX8_steps_24 : decode cX8_steps 24 = .ok (.getfield 86, 3) := by decide +kernel
theorem dX8_steps_27 : decode cX8_steps 27 = .ok (.iload_n 1, 1) := by decide +kernel
theorem dX8_steps_28 : decode cX8_steps 28 = .ok (.iadd, 1) := by decide +kernel
theorem dX8_steps_29 : decode cX8_steps 29 = .ok (.istore_n 2, 1) := by decide +kernel
theorem dX8_steps_30 : decode cX8_steps 30 = .ok (.iload_n 2, 1) := by decide +kernel
theorem dX8_steps_31 : decode cX8_steps 31 = .ok (.sipush (-9999), 3) := by decide +kernel
theorem dX8_steps_34 : decode cX8_steps 34 = .ok (.if_icmp .lt 10, 3) := by decide +kernel
theorem dX8_steps_37 : decode cX8_steps 37 = .ok (.iload_n 2, 1) := by decide +kernel
theorem dX8_steps_38 : decode cX8_steps 38 = .ok (.sipush 9999, 3) := by decide +kernel
theorem dX8_steps_41 : decode cX8_steps 41 = .ok (.if_icmp .le 6, 3) := by decide +kernel
theorem dX8_steps_44 : decode cX8_steps 44 = .ok (.bipush (-3), 2) := by decide +kernel
theorem dX8_steps_46 : decode cX8_steps 46 = .ok (.ireturn, 1) := by decide +kernel
theorem dX8_steps_47 : decode cX8_steps 47 = .ok (.aload_n 0, 1) := by decide +kernel
theorem dX8_steps_48 : decode cX8_steps 48 = .ok (.getfield 12, 3) := by decide +kernel
theorem dX8_steps_51 : decode cX8_steps 51 = .ok (.getfield 69, 3) := by decide +kernel
theorem dX8_steps_54 : decode cX8_steps 54 = .ok (.iload_n 1, 1) := by decide +kernel
theorem dX8_steps_55 : decode cX8_steps 55 = .ok (.aload_n 0, 1) := by decide +kernel
theorem dX8_steps_56 : decode cX8_steps 56 = .ok (.getfield 12, 3) := by decide +kernel
theorem dX8_steps_59 : decode cX8_steps 59 = .ok (.getfield 148, 3) := by decide +kernel
theorem dX8_steps_62 : decode cX8_steps 62 = .ok (.invokevirtual 169, 3) := by decide +kernel
theorem dX8_steps_65 : decode cX8_steps 65 = .ok (.iload_n 2, 1) := by decide +kernel
theorem dX8_steps_66 : decode cX8_steps 66 = .ok (.sipush 10000, 3) := by decide +kernel
theorem dX8_steps_69 : decode cX8_steps 69 = .ok (.iadd, 1) := by decide +kernel
theorem dX8_steps_70 : decode cX8_steps 70 = .ok (.ireturn, 1) := by decide +kernel
theorem dX8_block_0 : decode cX8_block 0 = .ok (.aload_n 0, 1) := by decide +kernel
theorem dX8_block_1 : decode cX8_block 1 = .ok (.getfield 12, 3) := by decide +kernel
theorem dX8_block_4 : decode cX8_block 4 = .ok (.getfield 69, 3) := by decide +kernel
theorem dX8_block_7 : decode cX8_block 7 = .ok (.iload_n 1, 1) := by decide +kernel
theorem dX8_block_8 : decode cX8_block 8 = .ok (.iload_n 2, 1) := by decide +kernel
theorem dX8_block_9 : decode cX8_block 9 = .ok (.invokevirtual 92, 3) := by decide +kernel
theorem dX8_block_12 : decode cX8_block 12 = .ok (.ifCond .ne 5, 3) := by decide +kernel
theorem dX8_block_15 : decode cX8_block 15 = .ok (.iconst (-1), 1) := by decide +kernel
theorem dX8_block_16 : decode cX8_block 16 = .ok (.ireturn, 1) := by decide +kernel
theorem dX8_block_17 : decode cX8_block 17 = .ok (.aload_n 0, 1) := by decide +kernel
theorem dX8_block_18 : decode cX8_block 18 = .ok (.getfield 12, 3) := by decide +kernel
theorem dX8_block_21 : decode cX8_block 21 = .ok (.getfield 69, 3) := by decide +kernel
theorem dX8_block_24 : decode cX8_block 24 = .ok (.iload_n 1, 1) := by decide +kernel
theorem dX8_block_25 : decode cX8_block 25 = .ok (.iload_n 2, 1) := by decide +kernel
theorem dX8_block_26 : decode cX8_block 26 = .ok (.invokevirtual 173, 3) := by decide +kernel
theorem dX8_block_29 : decode cX8_block 29 = .ok (.ireturn, 1) := by decide +kernel
theorem dX8_then_0 : decode cX8_then 0 = .ok (.aload_n 0, 1) := by decide +kernel
theorem dX8_then_1 : decode cX8_then 1 = .ok (.getfield 12, 3) := by decide +kernel
theorem dX8_then_4 : decode cX8_then 4 = .ok (.getfield 69, 3) := by decide +kernel
theorem dX8_then_7 : decode cX8_then 7 = .ok (.iload_n 1, 1) := by decide +kernel
theorem dX8_then_8 : decode cX8_then 8 = .ok (.iload_n 2, 1) := by decide +kernel
theorem dX8_then_9 : decode cX8_then 9 = .ok (.invokevirtual 92, 3) := by decide +kernel
theorem dX8_then_12 : decode cX8_then 12 = .ok (.ifCond .ne 5, 3) := by decide +kernel
theorem dX8_then_15 : decode cX8_then 15 = .ok (.iconst (-1), 1) := by decide +kernel
theorem dX8_then_16 : decode cX8_then 16 = .ok (.ireturn, 1) := by decide +kernel
theorem dX8_then_17 : decode cX8_then 17 = .ok (.iload_n 3, 1) := by decide +kernel
theorem dX8_then_18 : decode cX8_then 18 = .ok (.bipush (-60), 2) := by decide +kernel
theorem dX8_then_20 : decode cX8_then 20 = .ok (.if_icmp .lt 9, 3) := by decide +kernel
theorem dX8_then_23 : decode cX8_then 23 = .ok (.iload_n 3, 1) := by decide +kernel
theorem dX8_then_24 : decode cX8_then 24 = .ok (.bipush 60, 2) := by decide +kernel
theorem dX8_then_26 : decode cX8_then 26 = .ok (.if_icmp .le 6, 3) := by decide +kernel
theorem dX8_then_29 : decode cX8_then 29 = .ok (.bipush (-2), 2) := by decide +kernel
theorem dX8_then_31 : decode cX8_then 31 = .ok (.ireturn, 1) := by decide +kernel
theorem dX8_then_32 : decode cX8_then 32 = .ok (.aload_n 0, 1) := by decide +kernel
theorem dX8_then_33 : decode cX8_then 33 = .ok (.getfield 37, 3) := by decide +kernel
theorem dX8_then_36 : decode cX8_then 36 = .ok (.aload_n 0, 1) := by decide +kernel
theorem dX8_then_37 : decode cX8_then 37 = .ok (.getfield 12, 3) := by decide +kernel
theorem dX8_then_40 : decode cX8_then 40 = .ok (.getfield 69, 3) := by decide +kernel
theorem dX8_then_43 : decode cX8_then 43 = .ok (.aload_n 0, 1) := by decide +kernel
theorem dX8_then_44 : decode cX8_then 44 = .ok (.getfield 12, 3) := by decide +kernel
theorem dX8_then_47 : decode cX8_then 47 = .ok (.getfield 148, 3) := by decide +kernel
theorem dX8_then_50 : decode cX8_then 50 = .ok (.bipush 100, 2) := by decide +kernel
theorem dX8_then_52 : decode cX8_then 52 = .ok (.iload_n 1, 1) := by decide +kernel
theorem dX8_then_53 : decode cX8_then 53 = .ok (.imul, 1) := by decide +kernel
theorem dX8_then_54 : decode cX8_then 54 = .ok (.iload_n 2, 1) := by decide +kernel
theorem dX8_then_55 : decode cX8_then 55 = .ok (.iadd, 1) := by decide +kernel
theorem dX8_then_56 : decode cX8_then 56 = .ok (.iload_n 3, 1) := by decide +kernel
theorem dX8_then_57 : decode cX8_then 57 = .ok (.invokevirtual 176, 3) := by decide +kernel
theorem dX8_then_60 : decode cX8_then 60 = .ok (.ireturn, 1) := by decide +kernel
theorem dX8_sum_0 : decode cX8_sum 0 = .ok (.iload_n 1, 1) := by decide +kernel
theorem dX8_sum_1 : decode cX8_sum 1 = .ok (.iload_n 2, 1) := by decide +kernel
theorem dX8_sum_2 : decode cX8_sum 2 = .ok (.iload_n 3, 1) := by decide +kernel
theorem dX8_sum_3 : decode cX8_sum 3 = .ok (.iload 4, 2) := by decide +kernel
theorem dX8_sum_5 : decode cX8_sum 5 = .ok (.invokestatic 180, 3) := by decide +kernel
theorem dX8_sum_8 : decode cX8_sum 8 = .ok (.ifCond .ne 6, 3) := by decide +kernel
theorem dX8_sum_11 : decode cX8_sum 11 = .ok (.bipush (-2), 2) := by decide +kernel
theorem dX8_sum_13 : decode cX8_sum 13 = .ok (.ireturn, 1) := by decide +kernel
theorem dX8_sum_14 : decode cX8_sum 14 = .ok (.aload_n 0, 1) := by decide +kernel
theorem dX8_sum_15 : decode cX8_sum 15 = .ok (.getfield 12, 3) := by decide +kernel
theorem dX8_sum_18 : decode cX8_sum 18 = .ok (.getfield 69, 3) := by decide +kernel
theorem dX8_sum_21 : decode cX8_sum 21 = .ok (.iload_n 1, 1) := by decide +kernel
theorem dX8_sum_22 : decode cX8_sum 22 = .ok (.iload_n 2, 1) := by decide +kernel
theorem dX8_sum_23 : decode cX8_sum 23 = .ok (.iload_n 3, 1) := by decide +kernel
theorem dX8_sum_24 : decode cX8_sum 24 = .ok (.iload 4, 2) := by decide +kernel
theorem dX8_sum_26 : decode cX8_sum 26 = .ok (.invokevirtual 184, 3) := by decide +kernel
theorem dX8_sum_29 : decode cX8_sum 29 = .ok (.ldc 188, 2) := by decide +kernel
theorem dX8_sum_31 : decode cX8_sum 31 = .ok (.iadd, 1) := by decide +kernel
theorem dX8_sum_32 : decode cX8_sum 32 = .ok (.ireturn, 1) := by decide +kernel
theorem dX8_kept_0 : decode cX8_kept 0 = .ok (.iload_n 1, 1) := by decide +kernel
theorem dX8_kept_1 : decode cX8_kept 1 = .ok (.iload_n 2, 1) := by decide +kernel
theorem dX8_kept_2 : decode cX8_kept 2 = .ok (.iload_n 3, 1) := by decide +kernel
theorem dX8_kept_3 : decode cX8_kept 3 = .ok (.iload 4, 2) := by decide +kernel
theorem dX8_kept_5 : decode cX8_kept 5 = .ok (.invokestatic 180, 3) := by decide +kernel
theorem dX8_kept_8 : decode cX8_kept 8 = .ok (.ifCond .ne 6, 3) := by decide +kernel
theorem dX8_kept_11 : decode cX8_kept 11 = .ok (.bipush (-2), 2) := by decide +kernel
theorem dX8_kept_13 : decode cX8_kept 13 = .ok (.ireturn, 1) := by decide +kernel
theorem dX8_kept_14 : decode cX8_kept 14 = .ok (.aload_n 0, 1) := by decide +kernel
theorem dX8_kept_15 : decode cX8_kept 15 = .ok (.getfield 12, 3) := by decide +kernel
theorem dX8_kept_18 : decode cX8_kept 18 = .ok (.getfield 148, 3) := by decide +kernel
theorem dX8_kept_21 : decode cX8_kept 21 = .ok (.iload_n 1, 1) := by decide +kernel
theorem dX8_kept_22 : decode cX8_kept 22 = .ok (.iload_n 2, 1) := by decide +kernel
theorem dX8_kept_23 : decode cX8_kept 23 = .ok (.iload_n 3, 1) := by decide +kernel
theorem dX8_kept_24 : decode cX8_kept 24 = .ok (.iload 4, 2) := by decide +kernel
theorem dX8_kept_26 : decode cX8_kept 26 = .ok (.invokevirtual 189, 3) := by decide +kernel
theorem dX8_kept_29 : decode cX8_kept 29 = .ok (.ifCond .eq 7, 3) := by decide +kernel
theorem dX8_kept_32 : decode cX8_kept 32 = .ok (.iconst 1, 1) := by decide +kernel
theorem dX8_kept_33 : decode cX8_kept 33 = .ok (.goto 4, 3) := by decide +kernel
theorem dX8_kept_36 : decode cX8_kept 36 = .ok (.iconst 0, 1) := by decide +kernel
theorem dX8_kept_37 : decode cX8_kept 37 = .ok (.ireturn, 1) := by decide +kernel
theorem dX8_again_0 : decode cX8_again 0 = .ok (.aload_n 0, 1) := by decide +kernel
theorem dX8_again_1 : decode cX8_again 1 = .ok (.getfield 37, 3) := by decide +kernel
theorem dX8_again_4 : decode cX8_again 4 = .ok (.aload_n 0, 1) := by decide +kernel
theorem dX8_again_5 : decode cX8_again 5 = .ok (.getfield 12, 3) := by decide +kernel
theorem dX8_again_8 : decode cX8_again 8 = .ok (.getfield 69, 3) := by decide +kernel
theorem dX8_again_11 : decode cX8_again 11 = .ok (.aload_n 0, 1) := by decide +kernel
theorem dX8_again_12 : decode cX8_again 12 = .ok (.getfield 12, 3) := by decide +kernel
theorem dX8_again_15 : decode cX8_again 15 = .ok (.getfield 148, 3) := by decide +kernel
theorem dX8_again_18 : decode cX8_again 18 = .ok (.invokevirtual 192, 3) := by decide +kernel
theorem dX8_again_21 : decode cX8_again 21 = .ok (.ireturn, 1) := by decide +kernel
theorem dX8_moved_0 : decode cX8_moved 0 = .ok (.iload_n 1, 1) := by decide +kernel
theorem dX8_moved_1 : decode cX8_moved 1 = .ok (.ifCond .lt 8, 3) := by decide +kernel
theorem dX8_moved_4 : decode cX8_moved 4 = .ok (.iload_n 1, 1) := by decide +kernel
theorem dX8_moved_5 : decode cX8_moved 5 = .ok (.iconst 2, 1) := by decide +kernel
theorem dX8_moved_6 : decode cX8_moved 6 = .ok (.if_icmp .le 5, 3) := by decide +kernel
theorem dX8_moved_9 : decode cX8_moved 9 = .ok (.iconst (-1), 1) := by decide +kernel
theorem dX8_moved_10 : decode cX8_moved 10 = .ok (.ireturn, 1) := by decide +kernel
theorem dX8_moved_11 : decode cX8_moved 11 = .ok (.aload_n 0, 1) := by decide +kernel
theorem dX8_moved_12 : decode cX8_moved 12 = .ok (.getfield 37, 3) := by decide +kernel
theorem dX8_moved_15 : decode cX8_moved 15 = .ok (.aload_n 0, 1) := by decide +kernel
theorem dX8_moved_16 : decode cX8_moved 16 = .ok (.getfield 12, 3) := by decide +kernel
theorem dX8_moved_19 : decode cX8_moved 19 = .ok (.getfield 69, 3) := by decide +kernel
theorem dX8_moved_22 : decode cX8_moved 22 = .ok (.aload_n 0, 1) := by decide +kernel
theorem dX8_moved_23 : decode cX8_moved 23 = .ok (.getfield 12, 3) := by decide +kernel
theorem dX8_moved_26 : decode cX8_moved 26 = .ok (.getfield 148, 3) := by decide +kernel
theorem dX8_moved_29 : decode cX8_moved 29 = .ok (.invokevirtual 196, 3) := by decide +kernel
theorem dX8_moved_32 : decode cX8_moved 32 = .ok (.ifCond .ne 6, 3) := by decide +kernel
theorem dX8_moved_35 : decode cX8_moved 35 = .ok (.bipush (-5), 2) := by decide +kernel
theorem dX8_moved_37 : decode cX8_moved 37 = .ok (.ireturn, 1) := by decide +kernel
theorem dX8_moved_38 : decode cX8_moved 38 = .ok (.iload_n 1, 1) := by decide +kernel
theorem dX8_moved_39 : decode cX8_moved 39 = .ok (.lookupswitch 41 #[(0, 25), (1, 33)], 25) := by decide +kernel
theorem dX8_moved_64 : decode cX8_moved 64 = .ok (.aload_n 0, 1) := by decide +kernel
theorem dX8_moved_65 : decode cX8_moved 65 = .ok (.getfield 37, 3) := by decide +kernel
theorem dX8_moved_68 : decode cX8_moved 68 = .ok (.getfield 200, 3) := by decide +kernel
theorem dX8_moved_71 : decode cX8_moved 71 = .ok (.ireturn, 1) := by decide +kernel
theorem dX8_moved_72 : decode cX8_moved 72 = .ok (.aload_n 0, 1) := by decide +kernel
theorem dX8_moved_73 : decode cX8_moved 73 = .ok (.getfield 37, 3) := by decide +kernel
theorem dX8_moved_76 : decode cX8_moved 76 = .ok (.getfield 203, 3) := by decide +kernel
theorem dX8_moved_79 : decode cX8_moved 79 = .ok (.ireturn, 1) := by decide +kernel
theorem dX8_moved_80 : decode cX8_moved 80 = .ok (.aload_n 0, 1) := by decide +kernel
theorem dX8_moved_81 : decode cX8_moved 81 = .ok (.getfield 37, 3) := by decide +kernel
theorem dX8_moved_84 : decode cX8_moved 84 = .ok (.getfield 206, 3) := by decide +kernel
theorem dX8_moved_87 : decode cX8_moved 87 = .ok (.ireturn, 1) := by decide +kernel
theorem dX8_unlike_0 : decode cX8_unlike 0 = .ok (.iload_n 1, 1) := by decide +kernel
theorem dX8_unlike_1 : decode cX8_unlike 1 = .ok (.ifCond .lt 9, 3) := by decide +kernel
theorem dX8_unlike_4 : decode cX8_unlike 4 = .ok (.iload_n 1, 1) := by decide +kernel
theorem dX8_unlike_5 : decode cX8_unlike 5 = .ok (.bipush 64, 2) := by decide +kernel
theorem dX8_unlike_7 : decode cX8_unlike 7 = .ok (.if_icmp .le 6, 3) := by decide +kernel
theorem dX8_unlike_10 : decode cX8_unlike 10 = .ok (.bipush (-2), 2) := by decide +kernel
theorem dX8_unlike_12 : decode cX8_unlike 12 = .ok (.ireturn, 1) := by decide +kernel
theorem dX8_unlike_13 : decode cX8_unlike 13 = .ok (.aload_n 0, 1) := by decide +kernel
theorem dX8_unlike_14 : decode cX8_unlike 14 = .ok (.getfield 37, 3) := by decide +kernel
theorem dX8_unlike_17 : decode cX8_unlike 17 = .ok (.aload_n 0, 1) := by decide +kernel
theorem dX8_unlike_18 : decode cX8_unlike 18 = .ok (.getfield 12, 3) := by decide +kernel
theorem dX8_unlike_21 : decode cX8_unlike 21 = .ok (.getfield 69, 3) := by decide +kernel
theorem dX8_unlike_24 : decode cX8_unlike 24 = .ok (.aload_n 0, 1) := by decide +kernel
theorem dX8_unlike_25 : decode cX8_unlike 25 = .ok (.getfield 12, 3) := by decide +kernel
theorem dX8_unlike_28 : decode cX8_unlike 28 = .ok (.getfield 148, 3) := by decide +kernel
theorem dX8_unlike_31 : decode cX8_unlike 31 = .ok (.iload_n 1, 1) := by decide +kernel
theorem dX8_unlike_32 : decode cX8_unlike 32 = .ok (.invokevirtual 209, 3) := by decide +kernel
theorem dX8_unlike_35 : decode cX8_unlike 35 = .ok (.ireturn, 1) := by decide +kernel
theorem dX8_thing_0 : decode cX8_thing 0 = .ok (.aload_n 0, 1) := by decide +kernel
theorem dX8_thing_1 : decode cX8_thing 1 = .ok (.invokevirtual 140, 3) := by decide +kernel
theorem dX8_thing_4 : decode cX8_thing 4 = .ok (.astore_n 3, 1) := by decide +kernel
theorem dX8_thing_5 : decode cX8_thing 5 = .ok (.iload_n 1, 1) := by decide +kernel
theorem dX8_thing_6 : decode cX8_thing 6 = .ok (.ifCond .lt 11, 3) := by decide +kernel
theorem dX8_thing_9 : decode cX8_thing 9 = .ok (.iload_n 1, 1) := by decide +kernel
theorem dX8_thing_10 : decode cX8_thing 10 = .ok (.aload_n 3, 1) := by decide +kernel
theorem dX8_thing_11 : decode cX8_thing 11 = .ok (.getfield 144, 3) := by decide +kernel
theorem dX8_thing_14 : decode cX8_thing 14 = .ok (.if_icmp .lt 5, 3) := by decide +kernel
theorem dX8_thing_17 : decode cX8_thing 17 = .ok (.iconst (-1), 1) := by decide +kernel
theorem dX8_thing_18 : decode cX8_thing 18 = .ok (.ireturn, 1) := by decide +kernel
theorem dX8_thing_19 : decode cX8_thing 19 = .ok (.iload_n 2, 1) := by decide +kernel
theorem dX8_thing_20 : decode cX8_thing 20 = .ok (.tableswitch 46 0 2 #[28, 34, 40], 28) := by decide +kernel
theorem dX8_thing_48 : decode cX8_thing 48 = .ok (.aload_n 3, 1) := by decide +kernel
theorem dX8_thing_49 : decode cX8_thing 49 = .ok (.iload_n 1, 1) := by decide +kernel
theorem dX8_thing_50 : decode cX8_thing 50 = .ok (.invokevirtual 213, 3) := by decide +kernel
theorem dX8_thing_53 : decode cX8_thing 53 = .ok (.ireturn, 1) := by decide +kernel
theorem dX8_thing_54 : decode cX8_thing 54 = .ok (.aload_n 3, 1) := by decide +kernel
theorem dX8_thing_55 : decode cX8_thing 55 = .ok (.iload_n 1, 1) := by decide +kernel
theorem dX8_thing_56 : decode cX8_thing 56 = .ok (.invokevirtual 216, 3) := by decide +kernel
theorem dX8_thing_59 : decode cX8_thing 59 = .ok (.ireturn, 1) := by decide +kernel
theorem dX8_thing_60 : decode cX8_thing 60 = .ok (.aload_n 3, 1) := by decide +kernel
theorem dX8_thing_61 : decode cX8_thing 61 = .ok (.iload_n 1, 1) := by decide +kernel
theorem dX8_thing_62 : decode cX8_thing 62 = .ok (.invokevirtual 219, 3) := by decide +kernel
theorem dX8_thing_65 : decode cX8_thing 65 = .ok (.ireturn, 1) := by decide +kernel
theorem dX8_thing_66 : decode cX8_thing 66 = .ok (.iconst (-1), 1) := by decide +kernel
theorem dX8_thing_67 : decode cX8_thing 67 = .ok (.ireturn, 1) := by decide +kernel
theorem dX8_thingAt_0 : decode cX8_thingAt 0 = .ok (.aload_n 0, 1) := by decide +kernel
theorem dX8_thingAt_1 : decode cX8_thingAt 1 = .ok (.getfield 12, 3) := by decide +kernel
theorem dX8_thingAt_4 : decode cX8_thingAt 4 = .ok (.getfield 69, 3) := by decide +kernel
theorem dX8_thingAt_7 : decode cX8_thingAt 7 = .ok (.iload_n 1, 1) := by decide +kernel
theorem dX8_thingAt_8 : decode cX8_thingAt 8 = .ok (.iload_n 2, 1) := by decide +kernel
theorem dX8_thingAt_9 : decode cX8_thingAt 9 = .ok (.invokevirtual 92, 3) := by decide +kernel
theorem dX8_thingAt_12 : decode cX8_thingAt 12 = .ok (.ifCond .ne 5, 3) := by decide +kernel
theorem dX8_thingAt_15 : decode cX8_thingAt 15 = .ok (.iconst (-1), 1) := by decide +kernel
theorem dX8_thingAt_16 : decode cX8_thingAt 16 = .ok (.ireturn, 1) := by decide +kernel
theorem dX8_thingAt_17 : decode cX8_thingAt 17 = .ok (.aload_n 0, 1) := by decide +kernel
theorem dX8_thingAt_18 : decode cX8_thingAt 18 = .ok (.invokevirtual 140, 3) := by decide +kernel
theorem dX8_thingAt_21 : decode cX8_thingAt 21 = .ok (.iload_n 1, 1) := by decide +kernel
theorem dX8_thingAt_22 : decode cX8_thingAt 22 = .ok (.iload_n 2, 1) := by decide +kernel
theorem dX8_thingAt_23 : decode cX8_thingAt 23 = .ok (.invokevirtual 222, 3) := by decide +kernel
theorem dX8_thingAt_26 : decode cX8_thingAt 26 = .ok (.ireturn, 1) := by decide +kernel
theorem dX8_shape_0 : decode cX8_shape 0 = .ok (.aload_n 0, 1) := by decide +kernel
theorem dX8_shape_1 : decode cX8_shape 1 = .ok (.invokevirtual 140, 3) := by decide +kernel
theorem dX8_shape_4 : decode cX8_shape 4 = .ok (.astore_n 3, 1) := by decide +kernel
theorem dX8_shape_5 : decode cX8_shape 5 = .ok (.iload_n 1, 1) := by decide +kernel
theorem dX8_shape_6 : decode cX8_shape 6 = .ok (.ifCond .lt 11, 3) := by decide +kernel
theorem dX8_shape_9 : decode cX8_shape 9 = .ok (.iload_n 1, 1) := by decide +kernel
theorem dX8_shape_10 : decode cX8_shape 10 = .ok (.aload_n 3, 1) := by decide +kernel
theorem dX8_shape_11 : decode cX8_shape 11 = .ok (.getfield 145, 3) := by decide +kernel
theorem dX8_shape_14 : decode cX8_shape 14 = .ok (.if_icmp .lt 5, 3) := by decide +kernel
theorem dX8_shape_17 : decode cX8_shape 17 = .ok (.iconst (-1), 1) := by decide +kernel
theorem dX8_shape_18 : decode cX8_shape 18 = .ok (.ireturn, 1) := by decide +kernel
theorem dX8_shape_19 : decode cX8_shape 19 = .ok (.aload_n 3, 1) := by decide +kernel
theorem dX8_shape_20 : decode cX8_shape 20 = .ok (.iload_n 1, 1) := by decide +kernel
theorem dX8_shape_21 : decode cX8_shape 21 = .ok (.invokevirtual 225, 3) := by decide +kernel
theorem dX8_shape_24 : decode cX8_shape 24 = .ok (.istore 4, 2) := by decide +kernel
theorem dX8_shape_26 : decode cX8_shape 26 = .ok (.iload_n 2, 1) := by decide +kernel
theorem dX8_shape_27 : decode cX8_shape 27 = .ok (.tableswitch 45 0 2 #[25, 31, 38], 25) := by decide +kernel
theorem dX8_shape_52 : decode cX8_shape 52 = .ok (.aload_n 3, 1) := by decide +kernel
theorem dX8_shape_53 : decode cX8_shape 53 = .ok (.iload_n 1, 1) := by decide +kernel
theorem dX8_shape_54 : decode cX8_shape 54 = .ok (.invokevirtual 228, 3) := by decide +kernel
theorem dX8_shape_57 : decode cX8_shape 57 = .ok (.ireturn, 1) := by decide +kernel
theorem dX8_shape_58 : decode cX8_shape 58 = .ok (.aload_n 3, 1) := by decide +kernel
theorem dX8_shape_59 : decode cX8_shape 59 = .ok (.iload 4, 2) := by decide +kernel
theorem dX8_shape_61 : decode cX8_shape 61 = .ok (.invokevirtual 213, 3) := by decide +kernel
theorem dX8_shape_64 : decode cX8_shape 64 = .ok (.ireturn, 1) := by decide +kernel
theorem dX8_shape_65 : decode cX8_shape 65 = .ok (.aload_n 3, 1) := by decide +kernel
theorem dX8_shape_66 : decode cX8_shape 66 = .ok (.iload 4, 2) := by decide +kernel
theorem dX8_shape_68 : decode cX8_shape 68 = .ok (.invokevirtual 216, 3) := by decide +kernel
theorem dX8_shape_71 : decode cX8_shape 71 = .ok (.ireturn, 1) := by decide +kernel
theorem dX8_shape_72 : decode cX8_shape 72 = .ok (.iconst (-1), 1) := by decide +kernel
theorem dX8_shape_73 : decode cX8_shape 73 = .ok (.ireturn, 1) := by decide +kernel
theorem dX8_feed_0 : decode cX8_feed 0 = .ok (.iload_n 1, 1) := by decide +kernel
theorem dX8_feed_1 : decode cX8_feed 1 = .ok (.iconst 1, 1) := by decide +kernel
theorem dX8_feed_2 : decode cX8_feed 2 = .ok (.if_icmp .lt 9, 3) := by decide +kernel
theorem dX8_feed_5 : decode cX8_feed 5 = .ok (.iload_n 1, 1) := by decide +kernel
theorem dX8_feed_6 : decode cX8_feed 6 = .ok (.bipush 127, 2) := by decide +kernel
theorem dX8_feed_8 : decode cX8_feed 8 = .ok (.if_icmp .le 6, 3) := by decide +kernel
theorem dX8_feed_11 : decode cX8_feed 11 = .ok (.bipush (-2), 2) := by decide +kernel
theorem dX8_feed_13 : decode cX8_feed 13 = .ok (.ireturn, 1) := by decide +kernel
theorem dX8_feed_14 : decode cX8_feed 14 = .ok (.aload_n 0, 1) := by decide +kernel
theorem dX8_feed_15 : decode cX8_feed 15 = .ok (.getfield 51, 3) := by decide +kernel
theorem dX8_feed_18 : decode cX8_feed 18 = .ok (.invokevirtual 231, 3) := by decide +kernel
theorem dX8_feed_21 : decode cX8_feed 21 = .ok (.ifCond .eq 6, 3) := by decide +kernel
theorem dX8_feed_24 : decode cX8_feed 24 = .ok (.bipush (-4), 2) := by decide +kernel
theorem dX8_feed_26 : decode cX8_feed 26 = .ok (.ireturn, 1) := by decide +kernel
theorem dX8_feed_27 : decode cX8_feed 27 = .ok (.aload_n 0, 1) := by decide +kernel
theorem dX8_feed_28 : decode cX8_feed 28 = .ok (.getfield 51, 3) := by decide +kernel
theorem dX8_feed_31 : decode cX8_feed 31 = .ok (.iload_n 1, 1) := by decide +kernel
theorem dX8_feed_32 : decode cX8_feed 32 = .ok (.invokevirtual 232, 3) := by decide +kernel
theorem dX8_feed_35 : decode cX8_feed 35 = .ok (.aload_n 0, 1) := by decide +kernel
theorem dX8_feed_36 : decode cX8_feed 36 = .ok (.getfield 51, 3) := by decide +kernel
theorem dX8_feed_39 : decode cX8_feed 39 = .ok (.getfield 234, 3) := by decide +kernel
theorem dX8_feed_42 : decode cX8_feed 42 = .ok (.ireturn, 1) := by decide +kernel
theorem dX8_read_0 : decode cX8_read 0 = .ok (.aload_n 0, 1) := by decide +kernel
theorem dX8_read_1 : decode cX8_read 1 = .ok (.invokevirtual 235, 3) := by decide +kernel
theorem dX8_read_4 : decode cX8_read 4 = .ok (.istore_n 1, 1) := by decide +kernel
theorem dX8_read_5 : decode cX8_read 5 = .ok (.aload_n 0, 1) := by decide +kernel
theorem dX8_read_6 : decode cX8_read 6 = .ok (.getfield 51, 3) := by decide +kernel
theorem dX8_read_9 : decode cX8_read 9 = .ok (.invokevirtual 238, 3) := by decide +kernel
theorem dX8_read_12 : decode cX8_read 12 = .ok (.iload_n 1, 1) := by decide +kernel
theorem dX8_read_13 : decode cX8_read 13 = .ok (.ireturn, 1) := by decide +kernel
theorem dX8_spell_0 : decode cX8_spell 0 = .ok (.aload_n 0, 1) := by decide +kernel
theorem dX8_spell_1 : decode cX8_spell 1 = .ok (.getfield 12, 3) := by decide +kernel
theorem dX8_spell_4 : decode cX8_spell 4 = .ok (.getfield 69, 3) := by decide +kernel
theorem dX8_spell_7 : decode cX8_spell 7 = .ok (.astore_n 1, 1) := by decide +kernel
theorem dX8_spell_8 : decode cX8_spell 8 = .ok (.aload_n 0, 1) := by decide +kernel
theorem dX8_spell_9 : decode cX8_spell 9 = .ok (.getfield 55, 3) := by decide +kernel
theorem dX8_spell_12 : decode cX8_spell 12 = .ok (.invokevirtual 238, 3) := by decide +kernel
theorem dX8_spell_15 : decode cX8_spell 15 = .ok (.iconst 0, 1) := by decide +kernel
theorem dX8_spell_16 : decode cX8_spell 16 = .ok (.istore_n 2, 1) := by decide +kernel
theorem dX8_spell_17 : decode cX8_spell 17 = .ok (.iload_n 2, 1) := by decide +kernel
theorem dX8_spell_18 : decode cX8_spell 18 = .ok (.aload_n 1, 1) := by decide +kernel
theorem dX8_spell_19 : decode cX8_spell 19 = .ok (.getfield 79, 3) := by decide +kernel
theorem dX8_spell_22 : decode cX8_spell 22 = .ok (.if_icmp .ge 62, 3) := by decide +kernel
theorem dX8_spell_25 : decode cX8_spell 25 = .ok (.iload_n 2, 1) := by decide +kernel
theorem dX8_spell_26 : decode cX8_spell 26 = .ok (.ifCond .le 12, 3) := by decide +kernel
theorem dX8_spell_29 : decode cX8_spell 29 = .ok (.aload_n 0, 1) := by decide +kernel
theorem dX8_spell_30 : decode cX8_spell 30 = .ok (.getfield 55, 3) := by decide +kernel
theorem dX8_spell_33 : decode cX8_spell 33 = .ok (.bipush 47, 2) := by decide +kernel
theorem dX8_spell_35 : decode cX8_spell 35 = .ok (.invokevirtual 232, 3) := by decide +kernel
theorem dX8_spell_38 : decode cX8_spell 38 = .ok (.iconst 0, 1) := by decide +kernel
theorem dX8_spell_39 : decode cX8_spell 39 = .ok (.istore_n 3, 1) := by decide +kernel
theorem dX8_spell_40 : decode cX8_spell 40 = .ok (.iload_n 3, 1) := by decide +kernel
theorem dX8_spell_41 : decode cX8_spell 41 = .ok (.aload_n 1, 1) := by decide +kernel
theorem dX8_spell_42 : decode cX8_spell 42 = .ok (.getfield 73, 3) := by decide +kernel
theorem dX8_spell_45 : decode cX8_spell 45 = .ok (.if_icmp .ge 33, 3) := by decide +kernel
theorem dX8_spell_48 : decode cX8_spell 48 = .ok (.aload_n 0, 1) := by decide +kernel
theorem dX8_spell_49 : decode cX8_spell 49 = .ok (.getfield 55, 3) := by decide +kernel
theorem dX8_spell_52 : decode cX8_spell 52 = .ok (.aload_n 1, 1) := by decide +kernel
theorem dX8_spell_53 : decode cX8_spell 53 = .ok (.iload_n 3, 1) := by decide +kernel
theorem dX8_spell_54 : decode cX8_spell 54 = .ok (.iload_n 2, 1) := by decide +kernel
theorem dX8_spell_55 : decode cX8_spell 55 = .ok (.invokevirtual 110, 3) := by decide +kernel
theorem dX8_spell_58 : decode cX8_spell 58 = .ok (.iconst 1, 1) := by decide +kernel
theorem dX8_spell_59 : decode cX8_spell 59 = .ok (.if_icmp .ne 8, 3) := by decide +kernel
theorem dX8_spell_62 : decode cX8_spell 62 = .ok (.bipush 35, 2) := by decide +kernel
theorem dX8_spell_64 : decode cX8_spell 64 = .ok (.goto 5, 3) := by decide +kernel
theorem dX8_spell_67 : decode cX8_spell 67 = .ok (.bipush 46, 2) := by decide +kernel
theorem dX8_spell_69 : decode cX8_spell 69 = .ok (.invokevirtual 232, 3) := by decide +kernel
theorem dX8_spell_72 : decode cX8_spell 72 = .ok (.iinc 3 1, 3) := by decide +kernel
theorem dX8_spell_75 : decode cX8_spell 75 = .ok (.goto (-35), 3) := by decide +kernel
theorem dX8_spell_78 : decode cX8_spell 78 = .ok (.iinc 2 1, 3) := by decide +kernel
theorem dX8_spell_81 : decode cX8_spell 81 = .ok (.goto (-64), 3) := by decide +kernel
theorem dX8_spell_84 : decode cX8_spell 84 = .ok (.aload_n 0, 1) := by decide +kernel
theorem dX8_spell_85 : decode cX8_spell 85 = .ok (.getfield 55, 3) := by decide +kernel
theorem dX8_spell_88 : decode cX8_spell 88 = .ok (.getfield 234, 3) := by decide +kernel
theorem dX8_spell_91 : decode cX8_spell 91 = .ok (.ireturn, 1) := by decide +kernel
theorem dX8_paper_0 : decode cX8_paper 0 = .ok (.iload_n 1, 1) := by decide +kernel
theorem dX8_paper_1 : decode cX8_paper 1 = .ok (.ifCond .ge 5, 3) := by decide +kernel
theorem dX8_paper_4 : decode cX8_paper 4 = .ok (.iconst (-1), 1) := by decide +kernel
theorem dX8_paper_5 : decode cX8_paper 5 = .ok (.ireturn, 1) := by decide +kernel
theorem dX8_paper_6 : decode cX8_paper 6 = .ok (.iload_n 1, 1) := by decide +kernel
theorem dX8_paper_7 : decode cX8_paper 7 = .ok (.aload_n 0, 1) := by decide +kernel
theorem dX8_paper_8 : decode cX8_paper 8 = .ok (.getfield 55, 3) := by decide +kernel
theorem dX8_paper_11 : decode cX8_paper 11 = .ok (.getfield 234, 3) := by decide +kernel
theorem dX8_paper_14 : decode cX8_paper 14 = .ok (.if_icmp .ge 14, 3) := by decide +kernel
theorem dX8_paper_17 : decode cX8_paper 17 = .ok (.aload_n 0, 1) := by decide +kernel
theorem dX8_paper_18 : decode cX8_paper 18 = .ok (.getfield 55, 3) := by decide +kernel
theorem dX8_paper_21 : decode cX8_paper 21 = .ok (.iload_n 1, 1) := by decide +kernel
theorem dX8_paper_22 : decode cX8_paper 22 = .ok (.invokevirtual 239, 3) := by decide +kernel
theorem dX8_paper_25 : decode cX8_paper 25 = .ok (.goto 5, 3) := by decide +kernel
theorem dX8_paper_28 : decode cX8_paper 28 = .ok (.bipush (-5), 2) := by decide +kernel
theorem dX8_paper_30 : decode cX8_paper 30 = .ok (.ireturn, 1) := by decide +kernel
theorem dX8_list_0 : decode cX8_list 0 = .ok (.aload_n 0, 1) := by decide +kernel
theorem dX8_list_1 : decode cX8_list 1 = .ok (.iload_n 1, 1) := by decide +kernel
theorem dX8_list_2 : decode cX8_list 2 = .ok (.invokevirtual 242, 3) := by decide +kernel
theorem dX8_list_5 : decode cX8_list 5 = .ok (.astore_n 3, 1) := by decide +kernel
theorem dX8_list_6 : decode cX8_list 6 = .ok (.aload_n 3, 1) := by decide +kernel
theorem dX8_list_7 : decode cX8_list 7 = .ok (.ifnonnull 5, 3) := by decide +kernel
theorem dX8_list_10 : decode cX8_list 10 = .ok (.iconst (-1), 1) := by decide +kernel
theorem dX8_list_11 : decode cX8_list 11 = .ok (.ireturn, 1) := by decide +kernel
theorem dX8_list_12 : decode cX8_list 12 = .ok (.iload_n 2, 1) := by decide +kernel
theorem dX8_list_13 : decode cX8_list 13 = .ok (.bipush 20, 2) := by decide +kernel
theorem dX8_list_15 : decode cX8_list 15 = .ok (.if_icmp .le 6, 3) := by decide +kernel
theorem dX8_list_18 : decode cX8_list 18 = .ok (.bipush (-2), 2) := by decide +kernel
theorem dX8_list_20 : decode cX8_list 20 = .ok (.ireturn, 1) := by decide +kernel
theorem dX8_list_21 : decode cX8_list 21 = .ok (.iload_n 2, 1) := by decide +kernel
theorem dX8_list_22 : decode cX8_list 22 = .ok (.ifCond .ge 6, 3) := by decide +kernel
theorem dX8_list_25 : decode cX8_list 25 = .ok (.bipush (-14), 2) := by decide +kernel
theorem dX8_list_27 : decode cX8_list 27 = .ok (.ireturn, 1) := by decide +kernel
theorem dX8_list_28 : decode cX8_list 28 = .ok (.aload_n 3, 1) := by decide +kernel
theorem dX8_list_29 : decode cX8_list 29 = .ok (.iload_n 2, 1) := by decide +kernel
theorem dX8_list_30 : decode cX8_list 30 = .ok (.invokevirtual 246, 3) := by decide +kernel
theorem dX8_list_33 : decode cX8_list 33 = .ok (.iconst 1, 1) := by decide +kernel
theorem dX8_list_34 : decode cX8_list 34 = .ok (.ireturn, 1) := by decide +kernel
theorem dX8_set_0 : decode cX8_set 0 = .ok (.aload_n 0, 1) := by decide +kernel
theorem dX8_set_1 : decode cX8_set 1 = .ok (.iload_n 1, 1) := by decide +kernel
theorem dX8_set_2 : decode cX8_set 2 = .ok (.invokevirtual 242, 3) := by decide +kernel
theorem dX8_set_5 : decode cX8_set 5 = .ok (.astore 5, 2) := by decide +kernel
theorem dX8_set_7 : decode cX8_set 7 = .ok (.aload 5, 2) := by decide +kernel
theorem dX8_set_9 : decode cX8_set 9 = .ok (.ifnonnull 5, 3) := by decide +kernel
theorem dX8_set_12 : decode cX8_set 12 = .ok (.iconst (-1), 1) := by decide +kernel
theorem dX8_set_13 : decode cX8_set 13 = .ok (.ireturn, 1) := by decide +kernel
theorem dX8_set_14 : decode cX8_set 14 = .ok (.aload 5, 2) := by decide +kernel
theorem dX8_set_16 : decode cX8_set 16 = .ok (.invokevirtual 249, 3) := by decide +kernel
theorem dX8_set_19 : decode cX8_set 19 = .ok (.ifCond .eq 6, 3) := by decide +kernel
theorem dX8_set_22 : decode cX8_set 22 = .ok (.bipush (-11), 2) := by decide +kernel
theorem dX8_set_24 : decode cX8_set 24 = .ok (.ireturn, 1) := by decide +kernel
theorem dX8_set_25 : decode cX8_set 25 = .ok (.aload 5, 2) := by decide +kernel
theorem dX8_set_27 : decode cX8_set 27 = .ok (.iload_n 2, 1) := by decide +kernel
theorem dX8_set_28 : decode cX8_set 28 = .ok (.invokevirtual 252, 3) := by decide +kernel
theorem dX8_set_31 : decode cX8_set 31 = .ok (.ifCond .ne 6, 3) := by decide +kernel
theorem dX8_set_34 : decode cX8_set 34 = .ok (.bipush (-13), 2) := by decide +kernel
theorem dX8_set_36 : decode cX8_set 36 = .ok (.ireturn, 1) := by decide +kernel
theorem dX8_set_37 : decode cX8_set 37 = .ok (.aload 5, 2) := by decide +kernel
theorem dX8_set_39 : decode cX8_set 39 = .ok (.iload_n 2, 1) := by decide +kernel
theorem dX8_set_40 : decode cX8_set 40 = .ok (.lload_n 3, 1) := by decide +kernel
theorem dX8_set_41 : decode cX8_set 41 = .ok (.invokevirtual 254, 3) := by decide +kernel
theorem dX8_set_44 : decode cX8_set 44 = .ok (.iconst 1, 1) := by decide +kernel
theorem dX8_set_45 : decode cX8_set 45 = .ok (.ireturn, 1) := by decide +kernel
theorem dX8_get_0 : decode cX8_get 0 = .ok (.aload_n 0, 1) := by decide +kernel
theorem dX8_get_1 : decode cX8_get 1 = .ok (.iload_n 1, 1) := by decide +kernel
theorem dX8_get_2 : decode cX8_get 2 = .ok (.invokevirtual 242, 3) := by decide +kernel
theorem dX8_get_5 : decode cX8_get 5 = .ok (.astore_n 3, 1) := by decide +kernel
theorem dX8_get_6 : decode cX8_get 6 = .ok (.aload_n 3, 1) := by decide +kernel
theorem dX8_get_7 : decode cX8_get 7 = .ok (.ifnull 19, 3) := by decide +kernel
theorem dX8_get_10 : decode cX8_get 10 = .ok (.aload_n 3, 1) := by decide +kernel
theorem dX8_get_11 : decode cX8_get 11 = .ok (.iload_n 2, 1) := by decide +kernel
theorem dX8_get_12 : decode cX8_get 12 = .ok (.invokevirtual 252, 3) := by decide +kernel
theorem dX8_get_15 : decode cX8_get 15 = .ok (.ifCond .eq 11, 3) := by decide +kernel
theorem dX8_get_18 : decode cX8_get 18 = .ok (.aload_n 3, 1) := by decide +kernel
theorem dX8_get_19 : decode cX8_get 19 = .ok (.iload_n 2, 1) := by decide +kernel
theorem dX8_get_20 : decode cX8_get 20 = .ok (.invokevirtual 258, 3) := by decide +kernel
theorem dX8_get_23 : decode cX8_get 23 = .ok (.goto 6, 3) := by decide +kernel
theorem dX8_get_26 : decode cX8_get 26 = .ok (.ldc2_w 262, 3) := by decide +kernel
theorem dX8_get_29 : decode cX8_get 29 = .ok (.lreturn, 1) := by decide +kernel
theorem dX8_lay_0 : decode cX8_lay 0 = .ok (.aload_n 0, 1) := by decide +kernel
theorem dX8_lay_1 : decode cX8_lay 1 = .ok (.iload_n 1, 1) := by decide +kernel
theorem dX8_lay_2 : decode cX8_lay 2 = .ok (.invokevirtual 242, 3) := by decide +kernel
theorem dX8_lay_5 : decode cX8_lay 5 = .ok (.astore_n 3, 1) := by decide +kernel
theorem dX8_lay_6 : decode cX8_lay 6 = .ok (.aload_n 3, 1) := by decide +kernel
theorem dX8_lay_7 : decode cX8_lay 7 = .ok (.ifnonnull 5, 3) := by decide +kernel
theorem dX8_lay_10 : decode cX8_lay 10 = .ok (.iconst (-1), 1) := by decide +kernel
theorem dX8_lay_11 : decode cX8_lay 11 = .ok (.ireturn, 1) := by decide +kernel
theorem dX8_lay_12 : decode cX8_lay 12 = .ok (.aload_n 3, 1) := by decide +kernel
theorem dX8_lay_13 : decode cX8_lay 13 = .ok (.invokevirtual 249, 3) := by decide +kernel
theorem dX8_lay_16 : decode cX8_lay 16 = .ok (.ifCond .eq 6, 3) := by decide +kernel
theorem dX8_lay_19 : decode cX8_lay 19 = .ok (.bipush (-11), 2) := by decide +kernel
theorem dX8_lay_21 : decode cX8_lay 21 = .ok (.ireturn, 1) := by decide +kernel
theorem dX8_lay_22 : decode cX8_lay 22 = .ok (.iload_n 2, 1) := by decide +kernel
theorem dX8_lay_23 : decode cX8_lay 23 = .ok (.ifCond .ge 6, 3) := by decide +kernel
theorem dX8_lay_26 : decode cX8_lay 26 = .ok (.bipush (-13), 2) := by decide +kernel
theorem dX8_lay_28 : decode cX8_lay 28 = .ok (.ireturn, 1) := by decide +kernel
theorem dX8_lay_29 : decode cX8_lay 29 = .ok (.iconst 0, 1) := by decide +kernel
theorem dX8_lay_30 : decode cX8_lay 30 = .ok (.istore 4, 2) := by decide +kernel
theorem dX8_lay_32 : decode cX8_lay 32 = .ok (.iload 4, 2) := by decide +kernel
theorem dX8_lay_34 : decode cX8_lay 34 = .ok (.aload_n 0, 1) := by decide +kernel
theorem dX8_lay_35 : decode cX8_lay 35 = .ok (.getfield 12, 3) := by decide +kernel
theorem dX8_lay_38 : decode cX8_lay 38 = .ok (.getfield 69, 3) := by decide +kernel
theorem dX8_lay_41 : decode cX8_lay 41 = .ok (.getfield 79, 3) := by decide +kernel
theorem dX8_lay_44 : decode cX8_lay 44 = .ok (.if_icmp .ge 44, 3) := by decide +kernel
theorem dX8_lay_47 : decode cX8_lay 47 = .ok (.aload_n 3, 1) := by decide +kernel
theorem dX8_lay_48 : decode cX8_lay 48 = .ok (.iload_n 2, 1) := by decide +kernel
theorem dX8_lay_49 : decode cX8_lay 49 = .ok (.iload 4, 2) := by decide +kernel
theorem dX8_lay_51 : decode cX8_lay 51 = .ok (.iadd, 1) := by decide +kernel
theorem dX8_lay_52 : decode cX8_lay 52 = .ok (.invokevirtual 252, 3) := by decide +kernel
theorem dX8_lay_55 : decode cX8_lay 55 = .ok (.ifCond .ne 6, 3) := by decide +kernel
theorem dX8_lay_58 : decode cX8_lay 58 = .ok (.bipush (-13), 2) := by decide +kernel
theorem dX8_lay_60 : decode cX8_lay 60 = .ok (.ireturn, 1) := by decide +kernel
theorem dX8_lay_61 : decode cX8_lay 61 = .ok (.aload_n 3, 1) := by decide +kernel
theorem dX8_lay_62 : decode cX8_lay 62 = .ok (.iload_n 2, 1) := by decide +kernel
theorem dX8_lay_63 : decode cX8_lay 63 = .ok (.iload 4, 2) := by decide +kernel
theorem dX8_lay_65 : decode cX8_lay 65 = .ok (.iadd, 1) := by decide +kernel
theorem dX8_lay_66 : decode cX8_lay 66 = .ok (.aload_n 0, 1) := by decide +kernel
theorem dX8_lay_67 : decode cX8_lay 67 = .ok (.getfield 12, 3) := by decide +kernel
theorem dX8_lay_70 : decode cX8_lay 70 = .ok (.getfield 69, 3) := by decide +kernel
theorem dX8_lay_73 : decode cX8_lay 73 = .ok (.iload 4, 2) := by decide +kernel
theorem dX8_lay_75 : decode cX8_lay 75 = .ok (.invokevirtual 264, 3) := by decide +kernel
theorem dX8_lay_78 : decode cX8_lay 78 = .ok (.i2l, 1) := by decide +kernel
theorem dX8_lay_79 : decode cX8_lay 79 = .ok (.invokevirtual 254, 3) := by decide +kernel
theorem dX8_lay_82 : decode cX8_lay 82 = .ok (.iinc 4 1, 3) := by decide +kernel
theorem dX8_lay_85 : decode cX8_lay 85 = .ok (.goto (-53), 3) := by decide +kernel
theorem dX8_lay_88 : decode cX8_lay 88 = .ok (.aload_n 0, 1) := by decide +kernel
theorem dX8_lay_89 : decode cX8_lay 89 = .ok (.getfield 12, 3) := by decide +kernel
theorem dX8_lay_92 : decode cX8_lay 92 = .ok (.getfield 69, 3) := by decide +kernel
theorem dX8_lay_95 : decode cX8_lay 95 = .ok (.getfield 79, 3) := by decide +kernel
theorem dX8_lay_98 : decode cX8_lay 98 = .ok (.ireturn, 1) := by decide +kernel
theorem dX8_load_0 : decode cX8_load 0 = .ok (.aload_n 0, 1) := by decide +kernel
theorem dX8_load_1 : decode cX8_load 1 = .ok (.iload_n 1, 1) := by decide +kernel
theorem dX8_load_2 : decode cX8_load 2 = .ok (.invokevirtual 242, 3) := by decide +kernel
theorem dX8_load_5 : decode cX8_load 5 = .ok (.astore_n 3, 1) := by decide +kernel
theorem dX8_load_6 : decode cX8_load 6 = .ok (.aload_n 3, 1) := by decide +kernel
theorem dX8_load_7 : decode cX8_load 7 = .ok (.ifnonnull 5, 3) := by decide +kernel
theorem dX8_load_10 : decode cX8_load 10 = .ok (.iconst (-1), 1) := by decide +kernel
theorem dX8_load_11 : decode cX8_load 11 = .ok (.ireturn, 1) := by decide +kernel
theorem dX8_load_12 : decode cX8_load 12 = .ok (.aload_n 3, 1) := by decide +kernel
theorem dX8_load_13 : decode cX8_load 13 = .ok (.invokevirtual 249, 3) := by decide +kernel
theorem dX8_load_16 : decode cX8_load 16 = .ok (.ifCond .eq 6, 3) := by decide +kernel
theorem dX8_load_19 : decode cX8_load 19 = .ok (.bipush (-11), 2) := by decide +kernel
theorem dX8_load_21 : decode cX8_load 21 = .ok (.ireturn, 1) := by decide +kernel
theorem dX8_load_22 : decode cX8_load 22 = .ok (.iload_n 2, 1) := by decide +kernel
theorem dX8_load_23 : decode cX8_load 23 = .ok (.ifCond .lt 22, 3) := by decide +kernel
theorem dX8_load_26 : decode cX8_load 26 = .ok (.iload_n 2, 1) := by decide +kernel
theorem dX8_load_27 : decode cX8_load 27 = .ok (.aload_n 3, 1) := by decide +kernel
theorem dX8_load_28 : decode cX8_load 28 = .ok (.getfield 267, 3) := by decide +kernel
theorem dX8_load_31 : decode cX8_load 31 = .ok (.aload_n 0, 1) := by decide +kernel
theorem dX8_load_32 : decode cX8_load 32 = .ok (.getfield 12, 3) := by decide +kernel
theorem dX8_load_35 : decode cX8_load 35 = .ok (.getfield 69, 3) := by decide +kernel
theorem dX8_load_38 : decode cX8_load 38 = .ok (.getfield 79, 3) := by decide +kernel
theorem dX8_load_41 : decode cX8_load 41 = .ok (.isub, 1) := by decide +kernel
theorem dX8_load_42 : decode cX8_load 42 = .ok (.if_icmp .le 6, 3) := by decide +kernel
theorem dX8_load_45 : decode cX8_load 45 = .ok (.bipush (-13), 2) := by decide +kernel
theorem dX8_load_47 : decode cX8_load 47 = .ok (.ireturn, 1) := by decide +kernel
theorem dX8_load_48 : decode cX8_load 48 = .ok (.iconst 0, 1) := by decide +kernel
theorem dX8_load_49 : decode cX8_load 49 = .ok (.istore 4, 2) := by decide +kernel
theorem dX8_load_51 : decode cX8_load 51 = .ok (.iload 4, 2) := by decide +kernel
theorem dX8_load_53 : decode cX8_load 53 = .ok (.aload_n 0, 1) := by decide +kernel
theorem dX8_load_54 : decode cX8_load 54 = .ok (.getfield 12, 3) := by decide +kernel
theorem dX8_load_57 : decode cX8_load 57 = .ok (.getfield 69, 3) := by decide +kernel
theorem dX8_load_60 : decode cX8_load 60 = .ok (.getfield 79, 3) := by decide +kernel
theorem dX8_load_63 : decode cX8_load 63 = .ok (.if_icmp .ge 30, 3) := by decide +kernel
theorem dX8_load_66 : decode cX8_load 66 = .ok (.aload_n 0, 1) := by decide +kernel
theorem dX8_load_67 : decode cX8_load 67 = .ok (.getfield 12, 3) := by decide +kernel
theorem dX8_load_70 : decode cX8_load 70 = .ok (.getfield 69, 3) := by decide +kernel
theorem dX8_load_73 : decode cX8_load 73 = .ok (.iload 4, 2) := by decide +kernel
theorem dX8_load_75 : decode cX8_load 75 = .ok (.aload_n 3, 1) := by decide +kernel
theorem dX8_load_76 : decode cX8_load 76 = .ok (.iload_n 2, 1) := by decide +kernel
theorem dX8_load_77 : decode cX8_load 77 = .ok (.iload 4, 2) := by decide +kernel
theorem dX8_load_79 : decode cX8_load 79 = .ok (.iadd, 1) := by decide +kernel
theorem dX8_load_80 : decode cX8_load 80 = .ok (.invokevirtual 258, 3) := by decide +kernel
theorem dX8_load_83 : decode cX8_load 83 = .ok (.l2i, 1) := by decide +kernel
theorem dX8_load_84 : decode cX8_load 84 = .ok (.invokevirtual 268, 3) := by decide +kernel
theorem dX8_load_87 : decode cX8_load 87 = .ok (.iinc 4 1, 3) := by decide +kernel
theorem dX8_load_90 : decode cX8_load 90 = .ok (.goto (-39), 3) := by decide +kernel
theorem dX8_load_93 : decode cX8_load 93 = .ok (.aload_n 0, 1) := by decide +kernel
theorem dX8_load_94 : decode cX8_load 94 = .ok (.getfield 30, 3) := by decide +kernel
theorem dX8_load_97 : decode cX8_load 97 = .ok (.invokevirtual 89, 3) := by decide +kernel
theorem dX8_load_100 : decode cX8_load 100 = .ok (.aload_n 0, 1) := by decide +kernel
theorem dX8_load_101 : decode cX8_load 101 = .ok (.getfield 12, 3) := by decide +kernel
theorem dX8_load_104 : decode cX8_load 104 = .ok (.getfield 69, 3) := by decide +kernel
theorem dX8_load_107 : decode cX8_load 107 = .ok (.invokevirtual 134, 3) := by decide +kernel
theorem dX8_load_110 : decode cX8_load 110 = .ok (.ireturn, 1) := by decide +kernel
theorem dX8_judge_0 : decode cX8_judge 0 = .ok (.aload_n 0, 1) := by decide +kernel
theorem dX8_judge_1 : decode cX8_judge 1 = .ok (.iload_n 1, 1) := by decide +kernel
theorem dX8_judge_2 : decode cX8_judge 2 = .ok (.invokevirtual 242, 3) := by decide +kernel
theorem dX8_judge_5 : decode cX8_judge 5 = .ok (.astore_n 3, 1) := by decide +kernel
theorem dX8_judge_6 : decode cX8_judge 6 = .ok (.aload_n 3, 1) := by decide +kernel
theorem dX8_judge_7 : decode cX8_judge 7 = .ok (.ifnonnull 5, 3) := by decide +kernel
theorem dX8_judge_10 : decode cX8_judge 10 = .ok (.iconst (-1), 1) := by decide +kernel
theorem dX8_judge_11 : decode cX8_judge 11 = .ok (.ireturn, 1) := by decide +kernel
theorem dX8_judge_12 : decode cX8_judge 12 = .ok (.iconst 0, 1) := by decide +kernel
theorem dX8_judge_13 : decode cX8_judge 13 = .ok (.istore 4, 2) := by decide +kernel
theorem dX8_judge_15 : decode cX8_judge 15 = .ok (.iload 4, 2) := by decide +kernel
theorem dX8_judge_17 : decode cX8_judge 17 = .ok (.aload_n 0, 1) := by decide +kernel
theorem dX8_judge_18 : decode cX8_judge 18 = .ok (.getfield 12, 3) := by decide +kernel
theorem dX8_judge_21 : decode cX8_judge 21 = .ok (.getfield 69, 3) := by decide +kernel
theorem dX8_judge_24 : decode cX8_judge 24 = .ok (.getfield 79, 3) := by decide +kernel
theorem dX8_judge_27 : decode cX8_judge 27 = .ok (.if_icmp .ge 54, 3) := by decide +kernel
theorem dX8_judge_30 : decode cX8_judge 30 = .ok (.aload_n 3, 1) := by decide +kernel
theorem dX8_judge_31 : decode cX8_judge 31 = .ok (.iload_n 2, 1) := by decide +kernel
theorem dX8_judge_32 : decode cX8_judge 32 = .ok (.iload 4, 2) := by decide +kernel
theorem dX8_judge_34 : decode cX8_judge 34 = .ok (.iadd, 1) := by decide +kernel
theorem dX8_judge_35 : decode cX8_judge 35 = .ok (.invokevirtual 252, 3) := by decide +kernel
theorem dX8_judge_38 : decode cX8_judge 38 = .ok (.ifCond .ne 9, 3) := by decide +kernel
theorem dX8_judge_41 : decode cX8_judge 41 = .ok (.bipush 100, 2) := by decide +kernel
theorem dX8_judge_43 : decode cX8_judge 43 = .ok (.iload 4, 2) := by decide +kernel
theorem dX8_judge_45 : decode cX8_judge 45 = .ok (.iadd, 1) := by decide +kernel
theorem dX8_judge_46 : decode cX8_judge 46 = .ok (.ireturn, 1) := by decide +kernel
theorem dX8_judge_47 : decode cX8_judge 47 = .ok (.aload_n 3, 1) := by decide +kernel
theorem dX8_judge_48 : decode cX8_judge 48 = .ok (.iload_n 2, 1) := by decide +kernel
theorem dX8_judge_49 : decode cX8_judge 49 = .ok (.iload 4, 2) := by decide +kernel
theorem dX8_judge_51 : decode cX8_judge 51 = .ok (.iadd, 1) := by decide +kernel
theorem dX8_judge_52 : decode cX8_judge 52 = .ok (.invokevirtual 258, 3) := by decide +kernel
theorem dX8_judge_55 : decode cX8_judge 55 = .ok (.aload_n 0, 1) := by decide +kernel
theorem dX8_judge_56 : decode cX8_judge 56 = .ok (.getfield 12, 3) := by decide +kernel
theorem dX8_judge_59 : decode cX8_judge 59 = .ok (.getfield 69, 3) := by decide +kernel
theorem dX8_judge_62 : decode cX8_judge 62 = .ok (.iload 4, 2) := by decide +kernel
theorem dX8_judge_64 : decode cX8_judge 64 = .ok (.invokevirtual 264, 3) := by decide +kernel
theorem dX8_judge_67 : decode cX8_judge 67 = .ok (.i2l, 1) := by decide +kernel
theorem dX8_judge_68 : decode cX8_judge 68 = .ok (.lcmp, 1) := by decide +kernel
theorem dX8_judge_69 : decode cX8_judge 69 = .ok (.ifCond .eq 6, 3) := by decide +kernel
theorem dX8_judge_72 : decode cX8_judge 72 = .ok (.iload 4, 2) := by decide +kernel
theorem dX8_judge_74 : decode cX8_judge 74 = .ok (.ireturn, 1) := by decide +kernel
theorem dX8_judge_75 : decode cX8_judge 75 = .ok (.iinc 4 1, 3) := by decide +kernel
theorem dX8_judge_78 : decode cX8_judge 78 = .ok (.goto (-63), 3) := by decide +kernel
theorem dX8_judge_81 : decode cX8_judge 81 = .ok (.bipush (-5), 2) := by decide +kernel
theorem dX8_judge_83 : decode cX8_judge 83 = .ok (.ireturn, 1) := by decide +kernel
theorem dX8_see_0 : decode cX8_see 0 = .ok (.iload_n 3, 1) := by decide +kernel
theorem dX8_see_1 : decode cX8_see 1 = .ok (.iconst (-1), 1) := by decide +kernel
theorem dX8_see_2 : decode cX8_see 2 = .ok (.if_icmp .ne 15, 3) := by decide +kernel
theorem dX8_see_5 : decode cX8_see 5 = .ok (.aload_n 0, 1) := by decide +kernel
theorem dX8_see_6 : decode cX8_see 6 = .ok (.getfield 12, 3) := by decide +kernel
theorem dX8_see_9 : decode cX8_see 9 = .ok (.getfield 271, 3) := by decide +kernel
theorem dX8_see_12 : decode cX8_see 12 = .ok (.invokevirtual 89, 3) := by decide +kernel
theorem dX8_see_15 : decode cX8_see 15 = .ok (.iconst 0, 1) := by decide +kernel
theorem dX8_see_16 : decode cX8_see 16 = .ok (.ireturn, 1) := by decide +kernel
theorem dX8_see_17 : decode cX8_see 17 = .ok (.iload_n 1, 1) := by decide +kernel
theorem dX8_see_18 : decode cX8_see 18 = .ok (.bipush (-12), 2) := by decide +kernel
theorem dX8_see_20 : decode cX8_see 20 = .ok (.if_icmp .lt 25, 3) := by decide +kernel
theorem dX8_see_23 : decode cX8_see 23 = .ok (.iload_n 1, 1) := by decide +kernel
theorem dX8_see_24 : decode cX8_see 24 = .ok (.bipush 12, 2) := by decide +kernel
theorem dX8_see_26 : decode cX8_see 26 = .ok (.if_icmp .gt 19, 3) := by decide +kernel
theorem dX8_see_29 : decode cX8_see 29 = .ok (.iload_n 2, 1) := by decide +kernel
theorem dX8_see_30 : decode cX8_see 30 = .ok (.invokestatic 274, 3) := by decide +kernel
theorem dX8_see_33 : decode cX8_see 33 = .ok (.ifCond .eq 12, 3) := by decide +kernel
theorem dX8_see_36 : decode cX8_see 36 = .ok (.iload_n 3, 1) := by decide +kernel
theorem dX8_see_37 : decode cX8_see 37 = .ok (.ifCond .lt 8, 3) := by decide +kernel
theorem dX8_see_40 : decode cX8_see 40 = .ok (.iload_n 3, 1) := by decide +kernel
theorem dX8_see_41 : decode cX8_see 41 = .ok (.iconst 1, 1) := by decide +kernel
theorem dX8_see_42 : decode cX8_see 42 = .ok (.if_icmp .le 6, 3) := by decide +kernel
theorem dX8_see_45 : decode cX8_see 45 = .ok (.bipush (-2), 2) := by decide +kernel
theorem dX8_see_47 : decode cX8_see 47 = .ok (.ireturn, 1) := by decide +kernel
theorem dX8_see_48 : decode cX8_see 48 = .ok (.aload_n 0, 1) := by decide +kernel
theorem dX8_see_49 : decode cX8_see 49 = .ok (.getfield 12, 3) := by decide +kernel
theorem dX8_see_52 : decode cX8_see 52 = .ok (.getfield 271, 3) := by decide +kernel
theorem dX8_see_55 : decode cX8_see 55 = .ok (.invokevirtual 99, 3) := by decide +kernel
theorem dX8_see_58 : decode cX8_see 58 = .ok (.ifCond .eq 6, 3) := by decide +kernel
theorem dX8_see_61 : decode cX8_see 61 = .ok (.bipush (-4), 2) := by decide +kernel
theorem dX8_see_63 : decode cX8_see 63 = .ok (.ireturn, 1) := by decide +kernel
theorem dX8_see_64 : decode cX8_see 64 = .ok (.aload_n 0, 1) := by decide +kernel
theorem dX8_see_65 : decode cX8_see 65 = .ok (.getfield 12, 3) := by decide +kernel
theorem dX8_see_68 : decode cX8_see 68 = .ok (.getfield 271, 3) := by decide +kernel
theorem dX8_see_71 : decode cX8_see 71 = .ok (.iload_n 1, 1) := by decide +kernel
theorem dX8_see_72 : decode cX8_see 72 = .ok (.iload_n 2, 1) := by decide +kernel
theorem dX8_see_73 : decode cX8_see 73 = .ok (.iload_n 3, 1) := by decide +kernel
theorem dX8_see_74 : decode cX8_see 74 = .ok (.invokevirtual 106, 3) := by decide +kernel
theorem dX8_see_77 : decode cX8_see 77 = .ok (.aload_n 0, 1) := by decide +kernel
theorem dX8_see_78 : decode cX8_see 78 = .ok (.getfield 12, 3) := by decide +kernel
theorem dX8_see_81 : decode cX8_see 81 = .ok (.getfield 271, 3) := by decide +kernel
theorem dX8_see_84 : decode cX8_see 84 = .ok (.getfield 114, 3) := by decide +kernel
theorem dX8_see_87 : decode cX8_see 87 = .ok (.ireturn, 1) := by decide +kernel
theorem dX8_fits_0 : decode cX8_fits 0 = .ok (.iconst 0, 1) := by decide +kernel
theorem dX8_fits_1 : decode cX8_fits 1 = .ok (.istore_n 1, 1) := by decide +kernel
theorem dX8_fits_2 : decode cX8_fits 2 = .ok (.iconst 0, 1) := by decide +kernel
theorem dX8_fits_3 : decode cX8_fits 3 = .ok (.istore_n 2, 1) := by decide +kernel
theorem dX8_fits_4 : decode cX8_fits 4 = .ok (.iload_n 2, 1) := by decide +kernel
theorem dX8_fits_5 : decode cX8_fits 5 = .ok (.iconst 5, 1) := by decide +kernel
theorem dX8_fits_6 : decode cX8_fits 6 = .ok (.if_icmp .ge 30, 3) := by decide +kernel
theorem dX8_fits_9 : decode cX8_fits 9 = .ok (.aload_n 0, 1) := by decide +kernel
theorem dX8_fits_10 : decode cX8_fits 10 = .ok (.getfield 37, 3) := by decide +kernel
theorem dX8_fits_13 : decode cX8_fits 13 = .ok (.iload_n 2, 1) := by decide +kernel
theorem dX8_fits_14 : decode cX8_fits 14 = .ok (.aload_n 0, 1) := by decide +kernel
theorem dX8_fits_15 : decode cX8_fits 15 = .ok (.getfield 12, 3) := by decide +kernel
theorem dX8_fits_18 : decode cX8_fits 18 = .ok (.invokevirtual 277, 3) := by decide +kernel
theorem dX8_fits_21 : decode cX8_fits 21 = .ok (.ifCond .eq 9, 3) := by decide +kernel
theorem dX8_fits_24 : decode cX8_fits 24 = .ok (.iload_n 1, 1) := by decide +kernel
theorem dX8_fits_25 : decode cX8_fits 25 = .ok (.iconst 1, 1) := by decide +kernel
theorem dX8_fits_26 : decode cX8_fits 26 = .ok (.iload_n 2, 1) := by decide +kernel
theorem dX8_fits_27 : decode cX8_fits 27 = .ok (.ishl, 1) := by decide +kernel
theorem dX8_fits_28 : decode cX8_fits 28 = .ok (.ior, 1) := by decide +kernel
theorem dX8_fits_29 : decode cX8_fits 29 = .ok (.istore_n 1, 1) := by decide +kernel
theorem dX8_fits_30 : decode cX8_fits 30 = .ok (.iinc 2 1, 3) := by decide +kernel
theorem dX8_fits_33 : decode cX8_fits 33 = .ok (.goto (-29), 3) := by decide +kernel
theorem dX8_fits_36 : decode cX8_fits 36 = .ok (.iload_n 1, 1) := by decide +kernel
theorem dX8_fits_37 : decode cX8_fits 37 = .ok (.ireturn, 1) := by decide +kernel
theorem dX8_event_0 : decode cX8_event 0 = .ok (.iload_n 1, 1) := by decide +kernel
theorem dX8_event_1 : decode cX8_event 1 = .ok (.iconst (-1), 1) := by decide +kernel
theorem dX8_event_2 : decode cX8_event 2 = .ok (.if_icmp .ne 15, 3) := by decide +kernel
theorem dX8_event_5 : decode cX8_event 5 = .ok (.aload_n 0, 1) := by decide +kernel
theorem dX8_event_6 : decode cX8_event 6 = .ok (.getfield 12, 3) := by decide +kernel
theorem dX8_event_9 : decode cX8_event 9 = .ok (.getfield 281, 3) := by decide +kernel
theorem dX8_event_12 : decode cX8_event 12 = .ok (.invokevirtual 89, 3) := by decide +kernel
theorem dX8_event_15 : decode cX8_event 15 = .ok (.iconst 0, 1) := by decide +kernel
theorem dX8_event_16 : decode cX8_event 16 = .ok (.ireturn, 1) := by decide +kernel
theorem dX8_event_17 : decode cX8_event 17 = .ok (.iload_n 1, 1) := by decide +kernel
theorem dX8_event_18 : decode cX8_event 18 = .ok (.ifCond .lt 8, 3) := by decide +kernel
theorem dX8_event_21 : decode cX8_event 21 = .ok (.iload_n 1, 1) := by decide +kernel
theorem dX8_event_22 : decode cX8_event 22 = .ok (.iconst 2, 1) := by decide +kernel
theorem dX8_event_23 : decode cX8_event 23 = .ok (.if_icmp .le 5, 3) := by decide +kernel
theorem dX8_event_26 : decode cX8_event 26 = .ok (.iconst (-1), 1) := by decide +kernel
theorem dX8_event_27 : decode cX8_event 27 = .ok (.ireturn, 1) := by decide +kernel
theorem dX8_event_28 : decode cX8_event 28 = .ok (.aload_n 0, 1) := by decide +kernel
theorem dX8_event_29 : decode cX8_event 29 = .ok (.iload_n 1, 1) := by decide +kernel
theorem dX8_event_30 : decode cX8_event 30 = .ok (.iload_n 2, 1) := by decide +kernel
theorem dX8_event_31 : decode cX8_event 31 = .ok (.invokevirtual 284, 3) := by decide +kernel
theorem dX8_event_34 : decode cX8_event 34 = .ok (.ifCond .ne 6, 3) := by decide +kernel
theorem dX8_event_37 : decode cX8_event 37 = .ok (.bipush (-2), 2) := by decide +kernel
theorem dX8_event_39 : decode cX8_event 39 = .ok (.ireturn, 1) := by decide +kernel
theorem dX8_event_40 : decode cX8_event 40 = .ok (.aload_n 0, 1) := by decide +kernel
theorem dX8_event_41 : decode cX8_event 41 = .ok (.getfield 12, 3) := by decide +kernel
theorem dX8_event_44 : decode cX8_event 44 = .ok (.getfield 281, 3) := by decide +kernel
theorem dX8_event_47 : decode cX8_event 47 = .ok (.invokevirtual 99, 3) := by decide +kernel
theorem dX8_event_50 : decode cX8_event 50 = .ok (.ifCond .eq 6, 3) := by decide +kernel
theorem dX8_event_53 : decode cX8_event 53 = .ok (.bipush (-4), 2) := by decide +kernel
theorem dX8_event_55 : decode cX8_event 55 = .ok (.ireturn, 1) := by decide +kernel
theorem dX8_event_56 : decode cX8_event 56 = .ok (.aload_n 0, 1) := by decide +kernel
theorem dX8_event_57 : decode cX8_event 57 = .ok (.getfield 12, 3) := by decide +kernel
theorem dX8_event_60 : decode cX8_event 60 = .ok (.getfield 281, 3) := by decide +kernel
theorem dX8_event_63 : decode cX8_event 63 = .ok (.iload_n 1, 1) := by decide +kernel
theorem dX8_event_64 : decode cX8_event 64 = .ok (.iload_n 2, 1) := by decide +kernel
theorem dX8_event_65 : decode cX8_event 65 = .ok (.iconst 0, 1) := by decide +kernel
theorem dX8_event_66 : decode cX8_event 66 = .ok (.invokevirtual 106, 3) := by decide +kernel
theorem dX8_event_69 : decode cX8_event 69 = .ok (.aload_n 0, 1) := by decide +kernel
theorem dX8_event_70 : decode cX8_event 70 = .ok (.getfield 12, 3) := by decide +kernel
theorem dX8_event_73 : decode cX8_event 73 = .ok (.getfield 281, 3) := by decide +kernel
theorem dX8_event_76 : decode cX8_event 76 = .ok (.getfield 114, 3) := by decide +kernel
theorem dX8_event_79 : decode cX8_event 79 = .ok (.ireturn, 1) := by decide +kernel
theorem dX8_after_0 : decode cX8_after 0 = .ok (.iload_n 1, 1) := by decide +kernel
theorem dX8_after_1 : decode cX8_after 1 = .ok (.ifCond .lt 8, 3) := by decide +kernel
theorem dX8_after_4 : decode cX8_after 4 = .ok (.iload_n 1, 1) := by decide +kernel
theorem dX8_after_5 : decode cX8_after 5 = .ok (.iconst 1, 1) := by decide +kernel
theorem dX8_after_6 : decode cX8_after 6 = .ok (.if_icmp .le 5, 3) := by decide +kernel
theorem dX8_after_9 : decode cX8_after 9 = .ok (.iconst (-1), 1) := by decide +kernel
theorem dX8_after_10 : decode cX8_after 10 = .ok (.ireturn, 1) := by decide +kernel
theorem dX8_after_11 : decode cX8_after 11 = .ok (.aload_n 0, 1) := by decide +kernel
theorem dX8_after_12 : decode cX8_after 12 = .ok (.getfield 37, 3) := by decide +kernel
theorem dX8_after_15 : decode cX8_after 15 = .ok (.aload_n 0, 1) := by decide +kernel
theorem dX8_after_16 : decode cX8_after 16 = .ok (.getfield 12, 3) := by decide +kernel
theorem dX8_after_19 : decode cX8_after 19 = .ok (.invokevirtual 287, 3) := by decide +kernel
theorem dX8_after_22 : decode cX8_after 22 = .ok (.astore_n 2, 1) := by decide +kernel
theorem dX8_after_23 : decode cX8_after 23 = .ok (.iload_n 1, 1) := by decide +kernel
theorem dX8_after_24 : decode cX8_after 24 = .ok (.ifCond .ne 8, 3) := by decide +kernel
theorem dX8_after_27 : decode cX8_after 27 = .ok (.aload_n 2, 1) := by decide +kernel
theorem dX8_after_28 : decode cX8_after 28 = .ok (.invokevirtual 134, 3) := by decide +kernel
theorem dX8_after_31 : decode cX8_after 31 = .ok (.ireturn, 1) := by decide +kernel
theorem dX8_after_32 : decode cX8_after 32 = .ok (.aload_n 0, 1) := by decide +kernel
theorem dX8_after_33 : decode cX8_after 33 = .ok (.getfield 44, 3) := by decide +kernel
theorem dX8_after_36 : decode cX8_after 36 = .ok (.aload_n 2, 1) := by decide +kernel
theorem dX8_after_37 : decode cX8_after 37 = .ok (.invokevirtual 291, 3) := by decide +kernel
theorem dX8_after_40 : decode cX8_after 40 = .ok (.aload_n 0, 1) := by decide +kernel
theorem dX8_after_41 : decode cX8_after 41 = .ok (.getfield 44, 3) := by decide +kernel
theorem dX8_after_44 : decode cX8_after 44 = .ok (.getfield 144, 3) := by decide +kernel
theorem dX8_after_47 : decode cX8_after 47 = .ok (.ireturn, 1) := by decide +kernel
theorem dX8_image_0 : decode cX8_image 0 = .ok (.aload_n 0, 1) := by decide +kernel
theorem dX8_image_1 : decode cX8_image 1 = .ok (.getfield 18, 3) := by decide +kernel
theorem dX8_image_4 : decode cX8_image 4 = .ok (.aload_n 0, 1) := by decide +kernel
theorem dX8_image_5 : decode cX8_image 5 = .ok (.getfield 12, 3) := by decide +kernel
theorem dX8_image_8 : decode cX8_image 8 = .ok (.invokevirtual 295, 3) := by decide +kernel
theorem dX8_image_11 : decode cX8_image 11 = .ok (.aload_n 0, 1) := by decide +kernel
theorem dX8_image_12 : decode cX8_image 12 = .ok (.iconst 1, 1) := by decide +kernel
theorem dX8_image_13 : decode cX8_image 13 = .ok (.putfield 21, 3) := by decide +kernel
theorem dX8_image_16 : decode cX8_image 16 = .ok (.aload_n 0, 1) := by decide +kernel
theorem dX8_image_17 : decode cX8_image 17 = .ok (.getfield 12, 3) := by decide +kernel
theorem dX8_image_20 : decode cX8_image 20 = .ok (.getfield 69, 3) := by decide +kernel
theorem dX8_image_23 : decode cX8_image 23 = .ok (.invokevirtual 134, 3) := by decide +kernel
theorem dX8_image_26 : decode cX8_image 26 = .ok (.ireturn, 1) := by decide +kernel
theorem dX8_back_0 : decode cX8_back 0 = .ok (.aload_n 0, 1) := by decide +kernel
theorem dX8_back_1 : decode cX8_back 1 = .ok (.getfield 21, 3) := by decide +kernel
theorem dX8_back_4 : decode cX8_back 4 = .ok (.ifCond .ne 6, 3) := by decide +kernel
theorem dX8_back_7 : decode cX8_back 7 = .ok (.bipush (-3), 2) := by decide +kernel
theorem dX8_back_9 : decode cX8_back 9 = .ok (.ireturn, 1) := by decide +kernel
theorem dX8_back_10 : decode cX8_back 10 = .ok (.aload_n 0, 1) := by decide +kernel
theorem dX8_back_11 : decode cX8_back 11 = .ok (.getfield 12, 3) := by decide +kernel
theorem dX8_back_14 : decode cX8_back 14 = .ok (.aload_n 0, 1) := by decide +kernel
theorem dX8_back_15 : decode cX8_back 15 = .ok (.getfield 18, 3) := by decide +kernel
theorem dX8_back_18 : decode cX8_back 18 = .ok (.invokevirtual 295, 3) := by decide +kernel
theorem dX8_back_21 : decode cX8_back 21 = .ok (.aload_n 0, 1) := by decide +kernel
theorem dX8_back_22 : decode cX8_back 22 = .ok (.getfield 30, 3) := by decide +kernel
theorem dX8_back_25 : decode cX8_back 25 = .ok (.invokevirtual 89, 3) := by decide +kernel
theorem dX8_back_28 : decode cX8_back 28 = .ok (.aload_n 0, 1) := by decide +kernel
theorem dX8_back_29 : decode cX8_back 29 = .ok (.getfield 12, 3) := by decide +kernel
theorem dX8_back_32 : decode cX8_back 32 = .ok (.getfield 69, 3) := by decide +kernel
theorem dX8_back_35 : decode cX8_back 35 = .ok (.invokevirtual 134, 3) := by decide +kernel
theorem dX8_back_38 : decode cX8_back 38 = .ok (.ireturn, 1) := by decide +kernel
theorem dX8_count_0 : decode cX8_count 0 = .ok (.iload_n 1, 1) := by decide +kernel
theorem dX8_count_1 : decode cX8_count 1 = .ok (.tableswitch 69 0 3 #[31, 42, 53, 61], 31) := by decide +kernel
theorem dX8_count_32 : decode cX8_count 32 = .ok (.aload_n 0, 1) := by decide +kernel
theorem dX8_count_33 : decode cX8_count 33 = .ok (.getfield 12, 3) := by decide +kernel
theorem dX8_count_36 : decode cX8_count 36 = .ok (.getfield 271, 3) := by decide +kernel
theorem dX8_count_39 : decode cX8_count 39 = .ok (.getfield 114, 3) := by decide +kernel
theorem dX8_count_42 : decode cX8_count 42 = .ok (.ireturn, 1) := by decide +kernel
theorem dX8_count_43 : decode cX8_count 43 = .ok (.aload_n 0, 1) := by decide +kernel
theorem dX8_count_44 : decode cX8_count 44 = .ok (.getfield 12, 3) := by decide +kernel
theorem dX8_count_47 : decode cX8_count 47 = .ok (.getfield 281, 3) := by decide +kernel
theorem dX8_count_50 : decode cX8_count 50 = .ok (.getfield 114, 3) := by decide +kernel
theorem dX8_count_53 : decode cX8_count 53 = .ok (.ireturn, 1) := by decide +kernel
theorem dX8_count_54 : decode cX8_count 54 = .ok (.aload_n 0, 1) := by decide +kernel
theorem dX8_count_55 : decode cX8_count 55 = .ok (.getfield 51, 3) := by decide +kernel
theorem dX8_count_58 : decode cX8_count 58 = .ok (.getfield 234, 3) := by decide +kernel
theorem dX8_count_61 : decode cX8_count 61 = .ok (.ireturn, 1) := by decide +kernel
theorem dX8_count_62 : decode cX8_count 62 = .ok (.aload_n 0, 1) := by decide +kernel
theorem dX8_count_63 : decode cX8_count 63 = .ok (.getfield 55, 3) := by decide +kernel
theorem dX8_count_66 : decode cX8_count 66 = .ok (.getfield 234, 3) := by decide +kernel
theorem dX8_count_69 : decode cX8_count 69 = .ok (.ireturn, 1) := by decide +kernel
theorem dX8_count_70 : decode cX8_count 70 = .ok (.bipush (-2), 2) := by decide +kernel
theorem dX8_count_72 : decode cX8_count 72 = .ok (.ireturn, 1) := by decide +kernel
theorem dX8_isSide_0 : decode cX8_isSide 0 = .ok (.iload_n 0, 1) := by decide +kernel
theorem dX8_isSide_1 : decode cX8_isSide 1 = .ok (.iconst 2, 1) := by decide +kernel
theorem dX8_isSide_2 : decode cX8_isSide 2 = .ok (.if_icmp .lt 19, 3) := by decide +kernel
theorem dX8_isSide_5 : decode cX8_isSide 5 = .ok (.iload_n 0, 1) := by decide +kernel
theorem dX8_isSide_6 : decode cX8_isSide 6 = .ok (.bipush 16, 2) := by decide +kernel
theorem dX8_isSide_8 : decode cX8_isSide 8 = .ok (.if_icmp .gt 13, 3) := by decide +kernel
theorem dX8_isSide_11 : decode cX8_isSide 11 = .ok (.iload_n 0, 1) := by decide +kernel
theorem dX8_isSide_12 : decode cX8_isSide 12 = .ok (.iconst 1, 1) := by decide +kernel
theorem dX8_isSide_13 : decode cX8_isSide 13 = .ok (.iand, 1) := by decide +kernel
theorem dX8_isSide_14 : decode cX8_isSide 14 = .ok (.ifCond .ne 7, 3) := by decide +kernel
theorem dX8_isSide_17 : decode cX8_isSide 17 = .ok (.iconst 1, 1) := by decide +kernel
theorem dX8_isSide_18 : decode cX8_isSide 18 = .ok (.goto 4, 3) := by decide +kernel
theorem dX8_isSide_21 : decode cX8_isSide 21 = .ok (.iconst 0, 1) := by decide +kernel
theorem dX8_isSide_22 : decode cX8_isSide 22 = .ok (.ireturn, 1) := by decide +kernel
theorem dX8_isState_0 : decode cX8_isState 0 = .ok (.iload_n 0, 1) := by decide +kernel
theorem dX8_isState_1 : decode cX8_isState 1 = .ok (.ifCond .lt 13, 3) := by decide +kernel
theorem dX8_isState_4 : decode cX8_isState 4 = .ok (.iload_n 0, 1) := by decide +kernel
theorem dX8_isState_5 : decode cX8_isState 5 = .ok (.bipush 16, 2) := by decide +kernel
theorem dX8_isState_7 : decode cX8_isState 7 = .ok (.if_icmp .ge 7, 3) := by decide +kernel
theorem dX8_isState_10 : decode cX8_isState 10 = .ok (.iconst 1, 1) := by decide +kernel
theorem dX8_isState_11 : decode cX8_isState 11 = .ok (.goto 4, 3) := by decide +kernel
theorem dX8_isState_14 : decode cX8_isState 14 = .ok (.iconst 0, 1) := by decide +kernel
theorem dX8_isState_15 : decode cX8_isState 15 = .ok (.ireturn, 1) := by decide +kernel
theorem dX8_isWeight_0 : decode cX8_isWeight 0 = .ok (.iload_n 0, 1) := by decide +kernel
theorem dX8_isWeight_1 : decode cX8_isWeight 1 = .ok (.bipush (-9), 2) := by decide +kernel
theorem dX8_isWeight_3 : decode cX8_isWeight 3 = .ok (.if_icmp .lt 13, 3) := by decide +kernel
theorem dX8_isWeight_6 : decode cX8_isWeight 6 = .ok (.iload_n 0, 1) := by decide +kernel
theorem dX8_isWeight_7 : decode cX8_isWeight 7 = .ok (.bipush 9, 2) := by decide +kernel
theorem dX8_isWeight_9 : decode cX8_isWeight 9 = .ok (.if_icmp .gt 7, 3) := by decide +kernel
theorem dX8_isWeight_12 : decode cX8_isWeight 12 = .ok (.iconst 1, 1) := by decide +kernel
theorem dX8_isWeight_13 : decode cX8_isWeight 13 = .ok (.goto 4, 3) := by decide +kernel
theorem dX8_isWeight_16 : decode cX8_isWeight 16 = .ok (.iconst 0, 1) := by decide +kernel
theorem dX8_isWeight_17 : decode cX8_isWeight 17 = .ok (.ireturn, 1) := by decide +kernel
theorem dX8_areWeights_0 : decode cX8_areWeights 0 = .ok (.iload_n 0, 1) := by decide +kernel
theorem dX8_areWeights_1 : decode cX8_areWeights 1 = .ok (.invokestatic 299, 3) := by decide +kernel
theorem dX8_areWeights_4 : decode cX8_areWeights 4 = .ok (.ifCond .eq 28, 3) := by decide +kernel
theorem dX8_areWeights_7 : decode cX8_areWeights 7 = .ok (.iload_n 1, 1) := by decide +kernel
theorem dX8_areWeights_8 : decode cX8_areWeights 8 = .ok (.invokestatic 299, 3) := by decide +kernel
theorem dX8_areWeights_11 : decode cX8_areWeights 11 = .ok (.ifCond .eq 21, 3) := by decide +kernel
theorem dX8_areWeights_14 : decode cX8_areWeights 14 = .ok (.iload_n 2, 1) := by decide +kernel
theorem dX8_areWeights_15 : decode cX8_areWeights 15 = .ok (.invokestatic 299, 3) := by decide +kernel
theorem dX8_areWeights_18 : decode cX8_areWeights 18 = .ok (.ifCond .eq 14, 3) := by decide +kernel
theorem dX8_areWeights_21 : decode cX8_areWeights 21 = .ok (.iload_n 3, 1) := by decide +kernel
theorem dX8_areWeights_22 : decode cX8_areWeights 22 = .ok (.invokestatic 299, 3) := by decide +kernel
theorem dX8_areWeights_25 : decode cX8_areWeights 25 = .ok (.ifCond .eq 7, 3) := by decide +kernel
theorem dX8_areWeights_28 : decode cX8_areWeights 28 = .ok (.iconst 1, 1) := by decide +kernel
theorem dX8_areWeights_29 : decode cX8_areWeights 29 = .ok (.goto 4, 3) := by decide +kernel
theorem dX8_areWeights_32 : decode cX8_areWeights 32 = .ok (.iconst 0, 1) := by decide +kernel
theorem dX8_areWeights_33 : decode cX8_areWeights 33 = .ok (.ireturn, 1) := by decide +kernel
theorem dX8_isAnyCell_0 : decode cX8_isAnyCell 0 = .ok (.iload_n 0, 1) := by decide +kernel
theorem dX8_isAnyCell_1 : decode cX8_isAnyCell 1 = .ok (.ifCond .lt 25, 3) := by decide +kernel
theorem dX8_isAnyCell_4 : decode cX8_isAnyCell 4 = .ok (.iload_n 0, 1) := by decide +kernel
theorem dX8_isAnyCell_5 : decode cX8_isAnyCell 5 = .ok (.bipush 100, 2) := by decide +kernel
theorem dX8_isAnyCell_7 : decode cX8_isAnyCell 7 = .ok (.idiv, 1) := by decide +kernel
theorem dX8_isAnyCell_8 : decode cX8_isAnyCell 8 = .ok (.bipush 16, 2) := by decide +kernel
theorem dX8_isAnyCell_10 : decode cX8_isAnyCell 10 = .ok (.if_icmp .ge 16, 3) := by decide +kernel
theorem dX8_isAnyCell_13 : decode cX8_isAnyCell 13 = .ok (.iload_n 0, 1) := by decide +kernel
theorem dX8_isAnyCell_14 : decode cX8_isAnyCell 14 = .ok (.bipush 100, 2) := by decide +kernel
theorem dX8_isAnyCell_16 : decode cX8_isAnyCell 16 = .ok (.irem, 1) := by decide +kernel
theorem dX8_isAnyCell_17 : decode cX8_isAnyCell 17 = .ok (.bipush 16, 2) := by decide +kernel
theorem dX8_isAnyCell_19 : decode cX8_isAnyCell 19 = .ok (.if_icmp .ge 7, 3) := by decide +kernel
theorem dX8_isAnyCell_22 : decode cX8_isAnyCell 22 = .ok (.iconst 1, 1) := by decide +kernel
theorem dX8_isAnyCell_23 : decode cX8_isAnyCell 23 = .ok (.goto 4, 3) := by decide +kernel
theorem dX8_isAnyCell_26 : decode cX8_isAnyCell 26 = .ok (.iconst 0, 1) := by decide +kernel
theorem dX8_isAnyCell_27 : decode cX8_isAnyCell 27 = .ok (.ireturn, 1) := by decide +kernel
theorem dX8_canHappen_0 : decode cX8_canHappen 0 = .ok (.iload_n 1, 1) := by decide +kernel
theorem dX8_canHappen_1 : decode cX8_canHappen 1 = .ok (.lookupswitch 58 #[(0, 27), (1, 42)], 27) := by decide +kernel
theorem dX8_canHappen_28 : decode cX8_canHappen 28 = .ok (.iload_n 2, 1) := by decide +kernel
theorem dX8_canHappen_29 : decode cX8_canHappen 29 = .ok (.ifCond .lt 12, 3) := by decide +kernel
theorem dX8_canHappen_32 : decode cX8_canHappen 32 = .ok (.iload_n 2, 1) := by decide +kernel
theorem dX8_canHappen_33 : decode cX8_canHappen 33 = .ok (.iconst 5, 1) := by decide +kernel
theorem dX8_canHappen_34 : decode cX8_canHappen 34 = .ok (.if_icmp .ge 7, 3) := by decide +kernel
theorem dX8_canHappen_37 : decode cX8_canHappen 37 = .ok (.iconst 1, 1) := by decide +kernel
theorem dX8_canHappen_38 : decode cX8_canHappen 38 = .ok (.goto 4, 3) := by decide +kernel
theorem dX8_canHappen_41 : decode cX8_canHappen 41 = .ok (.iconst 0, 1) := by decide +kernel
theorem dX8_canHappen_42 : decode cX8_canHappen 42 = .ok (.ireturn, 1) := by decide +kernel
theorem dX8_canHappen_43 : decode cX8_canHappen 43 = .ok (.iload_n 2, 1) := by decide +kernel
theorem dX8_canHappen_44 : decode cX8_canHappen 44 = .ok (.ifCond .lt 13, 3) := by decide +kernel
theorem dX8_canHappen_47 : decode cX8_canHappen 47 = .ok (.iload_n 2, 1) := by decide +kernel
theorem dX8_canHappen_48 : decode cX8_canHappen 48 = .ok (.bipush 20, 2) := by decide +kernel
theorem dX8_canHappen_50 : decode cX8_canHappen 50 = .ok (.if_icmp .gt 7, 3) := by decide +kernel
theorem dX8_canHappen_53 : decode cX8_canHappen 53 = .ok (.iconst 1, 1) := by decide +kernel
theorem dX8_canHappen_54 : decode cX8_canHappen 54 = .ok (.goto 4, 3) := by decide +kernel
theorem dX8_canHappen_57 : decode cX8_canHappen 57 = .ok (.iconst 0, 1) := by decide +kernel
theorem dX8_canHappen_58 : decode cX8_canHappen 58 = .ok (.ireturn, 1) := by decide +kernel
theorem dX8_canHappen_59 : decode cX8_canHappen 59 = .ok (.aload_n 0, 1) := by decide +kernel
theorem dX8_canHappen_60 : decode cX8_canHappen 60 = .ok (.getfield 12, 3) := by decide +kernel
theorem dX8_canHappen_63 : decode cX8_canHappen 63 = .ok (.getfield 69, 3) := by decide +kernel
theorem dX8_canHappen_66 : decode cX8_canHappen 66 = .ok (.iload_n 2, 1) := by decide +kernel
theorem dX8_canHappen_67 : decode cX8_canHappen 67 = .ok (.bipush 100, 2) := by decide +kernel
theorem dX8_canHappen_69 : decode cX8_canHappen 69 = .ok (.idiv, 1) := by decide +kernel
theorem dX8_canHappen_70 : decode cX8_canHappen 70 = .ok (.iload_n 2, 1) := by decide +kernel
theorem dX8_canHappen_71 : decode cX8_canHappen 71 = .ok (.bipush 100, 2) := by decide +kernel
theorem dX8_canHappen_73 : decode cX8_canHappen 73 = .ok (.irem, 1) := by decide +kernel
theorem dX8_canHappen_74 : decode cX8_canHappen 74 = .ok (.invokevirtual 92, 3) := by decide +kernel
theorem dX8_canHappen_77 : decode cX8_canHappen 77 = .ok (.ireturn, 1) := by decide +kernel
theorem dX8_undoable_0 : decode cX8_undoable 0 = .ok (.iconst 0, 1) := by decide +kernel
theorem dX8_undoable_1 : decode cX8_undoable 1 = .ok (.istore_n 1, 1) := by decide +kernel
theorem dX8_undoable_2 : decode cX8_undoable 2 = .ok (.aload_n 0, 1) := by decide +kernel
theorem dX8_undoable_3 : decode cX8_undoable 3 = .ok (.getfield 30, 3) := by decide +kernel
theorem dX8_undoable_6 : decode cX8_undoable 6 = .ok (.getfield 114, 3) := by decide +kernel
theorem dX8_undoable_9 : decode cX8_undoable 9 = .ok (.iconst 1, 1) := by decide +kernel
theorem dX8_undoable_10 : decode cX8_undoable 10 = .ok (.isub, 1) := by decide +kernel
theorem dX8_undoable_11 : decode cX8_undoable 11 = .ok (.istore_n 2, 1) := by decide +kernel
theorem dX8_undoable_12 : decode cX8_undoable 12 = .ok (.iload_n 2, 1) := by decide +kernel
theorem dX8_undoable_13 : decode cX8_undoable 13 = .ok (.ifCond .lt 36, 3) := by decide +kernel
theorem dX8_undoable_16 : decode cX8_undoable 16 = .ok (.aload_n 0, 1) := by decide +kernel
theorem dX8_undoable_17 : decode cX8_undoable 17 = .ok (.getfield 30, 3) := by decide +kernel
theorem dX8_undoable_20 : decode cX8_undoable 20 = .ok (.iload_n 2, 1) := by decide +kernel
theorem dX8_undoable_21 : decode cX8_undoable 21 = .ok (.invokevirtual 117, 3) := by decide +kernel
theorem dX8_undoable_24 : decode cX8_undoable 24 = .ok (.aload_n 0, 1) := by decide +kernel
theorem dX8_undoable_25 : decode cX8_undoable 25 = .ok (.getfield 12, 3) := by decide +kernel
theorem dX8_undoable_28 : decode cX8_undoable 28 = .ok (.getfield 69, 3) := by decide +kernel
theorem dX8_undoable_31 : decode cX8_undoable 31 = .ok (.getfield 86, 3) := by decide +kernel
theorem dX8_undoable_34 : decode cX8_undoable 34 = .ok (.if_icmp .eq 6, 3) := by decide +kernel
theorem dX8_undoable_37 : decode cX8_undoable 37 = .ok (.goto 12, 3) := by decide +kernel
theorem dX8_undoable_40 : decode cX8_undoable 40 = .ok (.iinc 1 1, 3) := by decide +kernel
theorem dX8_undoable_43 : decode cX8_undoable 43 = .ok (.iinc 2 (-1), 3) := by decide +kernel
theorem dX8_undoable_46 : decode cX8_undoable 46 = .ok (.goto (-34), 3) := by decide +kernel
theorem dX8_undoable_49 : decode cX8_undoable 49 = .ok (.iload_n 1, 1) := by decide +kernel
theorem dX8_undoable_50 : decode cX8_undoable 50 = .ok (.ireturn, 1) := by decide +kernel
theorem dX8_thingsNow_0 : decode cX8_thingsNow 0 = .ok (.aload_n 0, 1) := by decide +kernel
theorem dX8_thingsNow_1 : decode cX8_thingsNow 1 = .ok (.getfield 44, 3) := by decide +kernel
theorem dX8_thingsNow_4 : decode cX8_thingsNow 4 = .ok (.aload_n 0, 1) := by decide +kernel
theorem dX8_thingsNow_5 : decode cX8_thingsNow 5 = .ok (.getfield 12, 3) := by decide +kernel
theorem dX8_thingsNow_8 : decode cX8_thingsNow 8 = .ok (.getfield 69, 3) := by decide +kernel
theorem dX8_thingsNow_11 : decode cX8_thingsNow 11 = .ok (.invokevirtual 291, 3) := by decide +kernel
theorem dX8_thingsNow_14 : decode cX8_thingsNow 14 = .ok (.aload_n 0, 1) := by decide +kernel
theorem dX8_thingsNow_15 : decode cX8_thingsNow 15 = .ok (.getfield 44, 3) := by decide +kernel
theorem dX8_thingsNow_18 : decode cX8_thingsNow 18 = .ok (.areturn, 1) := by decide +kernel
theorem dX8_rowOf_0 : decode cX8_rowOf 0 = .ok (.iload_n 1, 1) := by decide +kernel
theorem dX8_rowOf_1 : decode cX8_rowOf 1 = .ok (.ifCond .lt 21, 3) := by decide +kernel
theorem dX8_rowOf_4 : decode cX8_rowOf 4 = .ok (.iload_n 1, 1) := by decide +kernel
theorem dX8_rowOf_5 : decode cX8_rowOf 5 = .ok (.aload_n 0, 1) := by decide +kernel
theorem dX8_rowOf_6 : decode cX8_rowOf 6 = .ok (.getfield 60, 3) := by decide +kernel
theorem dX8_rowOf_9 : decode cX8_rowOf 9 = .ok (.arraylength, 1) := by decide +kernel
theorem dX8_rowOf_10 : decode cX8_rowOf 10 = .ok (.if_icmp .ge 12, 3) := by decide +kernel
theorem dX8_rowOf_13 : decode cX8_rowOf 13 = .ok (.aload_n 0, 1) := by decide +kernel
theorem dX8_rowOf_14 : decode cX8_rowOf 14 = .ok (.getfield 60, 3) := by decide +kernel
theorem dX8_rowOf_17 : decode cX8_rowOf 17 = .ok (.iload_n 1, 1) := by decide +kernel
theorem dX8_rowOf_18 : decode cX8_rowOf 18 = .ok (.aaload, 1) := by decide +kernel
theorem dX8_rowOf_19 : decode cX8_rowOf 19 = .ok (.goto 4, 3) := by decide +kernel
theorem dX8_rowOf_22 : decode cX8_rowOf 22 = .ok (.aconst_null, 1) := by decide +kernel
theorem dX8_rowOf_23 : decode cX8_rowOf 23 = .ok (.areturn, 1) := by decide +kernel
theorem dX8_readTape_0 : decode cX8_readTape 0 = .ok (.aload_n 0, 1) := by decide +kernel
theorem dX8_readTape_1 : decode cX8_readTape 1 = .ok (.getfield 51, 3) := by decide +kernel
theorem dX8_readTape_4 : decode cX8_readTape 4 = .ok (.invokevirtual 302, 3) := by decide +kernel
theorem dX8_readTape_7 : decode cX8_readTape 7 = .ok (.istore_n 1, 1) := by decide +kernel
theorem dX8_readTape_8 : decode cX8_readTape 8 = .ok (.iload_n 1, 1) := by decide +kernel
theorem dX8_readTape_9 : decode cX8_readTape 9 = .ok (.ifCond .lt 8, 3) := by decide +kernel
theorem dX8_readTape_12 : decode cX8_readTape 12 = .ok (.bipush (-100), 2) := by decide +kernel
theorem dX8_readTape_14 : decode cX8_readTape 14 = .ok (.iload_n 1, 1) := by decide +kernel
theorem dX8_readTape_15 : decode cX8_readTape 15 = .ok (.isub, 1) := by decide +kernel
theorem dX8_readTape_16 : decode cX8_readTape 16 = .ok (.ireturn, 1) := by decide +kernel
theorem dX8_readTape_17 : decode cX8_readTape 17 = .ok (.aload_n 0, 1) := by decide +kernel
theorem dX8_readTape_18 : decode cX8_readTape 18 = .ok (.getfield 51, 3) := by decide +kernel
theorem dX8_readTape_21 : decode cX8_readTape 21 = .ok (.invokevirtual 305, 3) := by decide +kernel
theorem dX8_readTape_24 : decode cX8_readTape 24 = .ok (.istore_n 2, 1) := by decide +kernel
theorem dX8_readTape_25 : decode cX8_readTape 25 = .ok (.aload_n 0, 1) := by decide +kernel
theorem dX8_readTape_26 : decode cX8_readTape 26 = .ok (.getfield 51, 3) := by decide +kernel
theorem dX8_readTape_29 : decode cX8_readTape 29 = .ok (.invokevirtual 308, 3) := by decide +kernel
theorem dX8_readTape_32 : decode cX8_readTape 32 = .ok (.istore_n 3, 1) := by decide +kernel
theorem dX8_readTape_33 : decode cX8_readTape 33 = .ok (.iload_n 2, 1) := by decide +kernel
theorem dX8_readTape_34 : decode cX8_readTape 34 = .ok (.invokestatic 65, 3) := by decide +kernel
theorem dX8_readTape_37 : decode cX8_readTape 37 = .ok (.ifCond .eq 10, 3) := by decide +kernel
theorem dX8_readTape_40 : decode cX8_readTape 40 = .ok (.iload_n 3, 1) := by decide +kernel
theorem dX8_readTape_41 : decode cX8_readTape 41 = .ok (.invokestatic 65, 3) := by decide +kernel
theorem dX8_readTape_44 : decode cX8_readTape 44 = .ok (.ifCond .ne 7, 3) := by decide +kernel
theorem dX8_readTape_47 : decode cX8_readTape 47 = .ok (.sipush (-500), 3) := by decide +kernel
theorem dX8_readTape_50 : decode cX8_readTape 50 = .ok (.ireturn, 1) := by decide +kernel
theorem dX8_readTape_51 : decode cX8_readTape 51 = .ok (.aload_n 0, 1) := by decide +kernel
theorem dX8_readTape_52 : decode cX8_readTape 52 = .ok (.getfield 12, 3) := by decide +kernel
theorem dX8_readTape_55 : decode cX8_readTape 55 = .ok (.getfield 69, 3) := by decide +kernel
theorem dX8_readTape_58 : decode cX8_readTape 58 = .ok (.iload_n 2, 1) := by decide +kernel
theorem dX8_readTape_59 : decode cX8_readTape 59 = .ok (.iload_n 3, 1) := by decide +kernel
theorem dX8_readTape_60 : decode cX8_readTape 60 = .ok (.invokevirtual 82, 3) := by decide +kernel
theorem dX8_readTape_63 : decode cX8_readTape 63 = .ok (.aload_n 0, 1) := by decide +kernel
theorem dX8_readTape_64 : decode cX8_readTape 64 = .ok (.invokevirtual 311, 3) := by decide +kernel
theorem dX8_readTape_67 : decode cX8_readTape 67 = .ok (.aload_n 0, 1) := by decide +kernel
theorem dX8_readTape_68 : decode cX8_readTape 68 = .ok (.getfield 30, 3) := by decide +kernel
theorem dX8_readTape_71 : decode cX8_readTape 71 = .ok (.invokevirtual 89, 3) := by decide +kernel
theorem dX8_readTape_74 : decode cX8_readTape 74 = .ok (.aload_n 0, 1) := by decide +kernel
theorem dX8_readTape_75 : decode cX8_readTape 75 = .ok (.getfield 12, 3) := by decide +kernel
theorem dX8_readTape_78 : decode cX8_readTape 78 = .ok (.getfield 69, 3) := by decide +kernel
theorem dX8_readTape_81 : decode cX8_readTape 81 = .ok (.invokevirtual 134, 3) := by decide +kernel
theorem dX8_readTape_84 : decode cX8_readTape 84 = .ok (.ireturn, 1) := by decide +kernel
theorem dX8_fillFromTape_0 : decode cX8_fillFromTape 0 = .ok (.iconst 0, 1) := by decide +kernel
theorem dX8_fillFromTape_1 : decode cX8_fillFromTape 1 = .ok (.istore_n 1, 1) := by decide +kernel
theorem dX8_fillFromTape_2 : decode cX8_fillFromTape 2 = .ok (.iconst 0, 1) := by decide +kernel
theorem dX8_fillFromTape_3 : decode cX8_fillFromTape 3 = .ok (.istore_n 2, 1) := by decide +kernel
theorem dX8_fillFromTape_4 : decode cX8_fillFromTape 4 = .ok (.iconst 0, 1) := by decide +kernel
theorem dX8_fillFromTape_5 : decode cX8_fillFromTape 5 = .ok (.istore_n 3, 1) := by decide +kernel
theorem dX8_fillFromTape_6 : decode cX8_fillFromTape 6 = .ok (.iload_n 3, 1) := by decide +kernel
theorem dX8_fillFromTape_7 : decode cX8_fillFromTape 7 = .ok (.aload_n 0, 1) := by decide +kernel
theorem dX8_fillFromTape_8 : decode cX8_fillFromTape 8 = .ok (.getfield 51, 3) := by decide +kernel
theorem dX8_fillFromTape_11 : decode cX8_fillFromTape 11 = .ok (.getfield 234, 3) := by decide +kernel
theorem dX8_fillFromTape_14 : decode cX8_fillFromTape 14 = .ok (.if_icmp .ge 58, 3) := by decide +kernel
theorem dX8_fillFromTape_17 : decode cX8_fillFromTape 17 = .ok (.aload_n 0, 1) := by decide +kernel
theorem dX8_fillFromTape_18 : decode cX8_fillFromTape 18 = .ok (.getfield 51, 3) := by decide +kernel
theorem dX8_fillFromTape_21 : decode cX8_fillFromTape 21 = .ok (.iload_n 3, 1) := by decide +kernel
theorem dX8_fillFromTape_22 : decode cX8_fillFromTape 22 = .ok (.invokevirtual 239, 3) := by decide +kernel
theorem dX8_fillFromTape_25 : decode cX8_fillFromTape 25 = .ok (.bipush 47, 2) := by decide +kernel
theorem dX8_fillFromTape_27 : decode cX8_fillFromTape 27 = .ok (.if_icmp .ne 11, 3) := by decide +kernel
theorem dX8_fillFromTape_30 : decode cX8_fillFromTape 30 = .ok (.iconst 0, 1) := by decide +kernel
theorem dX8_fillFromTape_31 : decode cX8_fillFromTape 31 = .ok (.istore_n 1, 1) := by decide +kernel
theorem dX8_fillFromTape_32 : decode cX8_fillFromTape 32 = .ok (.iinc 2 1, 3) := by decide +kernel
theorem dX8_fillFromTape_35 : decode cX8_fillFromTape 35 = .ok (.goto 31, 3) := by decide +kernel
theorem dX8_fillFromTape_38 : decode cX8_fillFromTape 38 = .ok (.aload_n 0, 1) := by decide +kernel
theorem dX8_fillFromTape_39 : decode cX8_fillFromTape 39 = .ok (.getfield 51, 3) := by decide +kernel
theorem dX8_fillFromTape_42 : decode cX8_fillFromTape 42 = .ok (.iload_n 3, 1) := by decide +kernel
theorem dX8_fillFromTape_43 : decode cX8_fillFromTape 43 = .ok (.invokevirtual 239, 3) := by decide +kernel
theorem dX8_fillFromTape_46 : decode cX8_fillFromTape 46 = .ok (.bipush 35, 2) := by decide +kernel
theorem dX8_fillFromTape_48 : decode cX8_fillFromTape 48 = .ok (.if_icmp .ne 15, 3) := by decide +kernel
theorem dX8_fillFromTape_51 : decode cX8_fillFromTape 51 = .ok (.aload_n 0, 1) := by decide +kernel
theorem dX8_fillFromTape_52 : decode cX8_fillFromTape 52 = .ok (.getfield 12, 3) := by decide +kernel
theorem dX8_fillFromTape_55 : decode cX8_fillFromTape 55 = .ok (.getfield 69, 3) := by decide +kernel
theorem dX8_fillFromTape_58 : decode cX8_fillFromTape 58 = .ok (.iload_n 1, 1) := by decide +kernel
theorem dX8_fillFromTape_59 : decode cX8_fillFromTape 59 = .ok (.iload_n 2, 1) := by decide +kernel
theorem dX8_fillFromTape_60 : decode cX8_fillFromTape 60 = .ok (.invokevirtual 96, 3) := by decide +kernel
theorem dX8_fillFromTape_63 : decode cX8_fillFromTape 63 = .ok (.iinc 1 1, 3) := by decide +kernel
theorem dX8_fillFromTape_66 : decode cX8_fillFromTape 66 = .ok (.iinc 3 1, 3) := by decide +kernel
theorem dX8_fillFromTape_69 : decode cX8_fillFromTape 69 = .ok (.goto (-63), 3) := by decide +kernel
theorem dX8_fillFromTape_72 : decode cX8_fillFromTape 72 = .ok (.return_, 1) := by decide +kernel
theorem dX8_at_0 : decode cX8_at 0 = .ok (.iload_n 1, 1) := by decide +kernel
theorem dX8_at_1 : decode cX8_at 1 = .ok (.ifCond .lt 15, 3) := by decide +kernel
theorem dX8_at_4 : decode cX8_at 4 = .ok (.iload_n 1, 1) := by decide +kernel
theorem dX8_at_5 : decode cX8_at 5 = .ok (.aload_n 0, 1) := by decide +kernel
theorem dX8_at_6 : decode cX8_at 6 = .ok (.arraylength, 1) := by decide +kernel
theorem dX8_at_7 : decode cX8_at 7 = .ok (.if_icmp .ge 9, 3) := by decide +kernel
theorem dX8_at_10 : decode cX8_at 10 = .ok (.aload_n 0, 1) := by decide +kernel
theorem dX8_at_11 : decode cX8_at 11 = .ok (.iload_n 1, 1) := by decide +kernel
theorem dX8_at_12 : decode cX8_at 12 = .ok (.iaload, 1) := by decide +kernel
theorem dX8_at_13 : decode cX8_at 13 = .ok (.goto 4, 3) := by decide +kernel
theorem dX8_at_16 : decode cX8_at 16 = .ok (.iconst 0, 1) := by decide +kernel
theorem dX8_at_17 : decode cX8_at 17 = .ok (.ireturn, 1) := by decide +kernel
theorem dX8_put_0 : decode cX8_put 0 = .ok (.iload_n 1, 1) := by decide +kernel
theorem dX8_put_1 : decode cX8_put 1 = .ok (.ifCond .lt 13, 3) := by decide +kernel
theorem dX8_put_4 : decode cX8_put 4 = .ok (.iload_n 1, 1) := by decide +kernel
theorem dX8_put_5 : decode cX8_put 5 = .ok (.aload_n 0, 1) := by decide +kernel
theorem dX8_put_6 : decode cX8_put 6 = .ok (.arraylength, 1) := by decide +kernel
theorem dX8_put_7 : decode cX8_put 7 = .ok (.if_icmp .ge 7, 3) := by decide +kernel
theorem dX8_put_10 : decode cX8_put 10 = .ok (.aload_n 0, 1) := by decide +kernel
theorem dX8_put_11 : decode cX8_put 11 = .ok (.iload_n 1, 1) := by decide +kernel
theorem dX8_put_12 : decode cX8_put 12 = .ok (.iload_n 2, 1) := by decide +kernel
theorem dX8_put_13 : decode cX8_put 13 = .ok (.iastore, 1) := by decide +kernel
theorem dX8_put_14 : decode cX8_put 14 = .ok (.return_, 1) := by decide +kernel
theorem dX8_copy_0 : decode cX8_copy 0 = .ok (.iconst 0, 1) := by decide +kernel
theorem dX8_copy_1 : decode cX8_copy 1 = .ok (.istore_n 2, 1) := by decide +kernel
theorem dX8_copy_2 : decode cX8_copy 2 = .ok (.iload_n 2, 1) := by decide +kernel
theorem dX8_copy_3 : decode cX8_copy 3 = .ok (.aload_n 0, 1) := by decide +kernel
theorem dX8_copy_4 : decode cX8_copy 4 = .ok (.arraylength, 1) := by decide +kernel
theorem dX8_copy_5 : decode cX8_copy 5 = .ok (.if_icmp .ge 21, 3) := by decide +kernel
theorem dX8_copy_8 : decode cX8_copy 8 = .ok (.iload_n 2, 1) := by decide +kernel
theorem dX8_copy_9 : decode cX8_copy 9 = .ok (.aload_n 1, 1) := by decide +kernel
theorem dX8_copy_10 : decode cX8_copy 10 = .ok (.arraylength, 1) := by decide +kernel
theorem dX8_copy_11 : decode cX8_copy 11 = .ok (.if_icmp .ge 15, 3) := by decide +kernel
theorem dX8_copy_14 : decode cX8_copy 14 = .ok (.aload_n 1, 1) := by decide +kernel
theorem dX8_copy_15 : decode cX8_copy 15 = .ok (.iload_n 2, 1) := by decide +kernel
theorem dX8_copy_16 : decode cX8_copy 16 = .ok (.aload_n 0, 1) := by decide +kernel
theorem dX8_copy_17 : decode cX8_copy 17 = .ok (.iload_n 2, 1) := by decide +kernel
theorem dX8_copy_18 : decode cX8_copy 18 = .ok (.iaload, 1) := by decide +kernel
theorem dX8_copy_19 : decode cX8_copy 19 = .ok (.iastore, 1) := by decide +kernel
theorem dX8_copy_20 : decode cX8_copy 20 = .ok (.iinc 2 1, 3) := by decide +kernel
theorem dX8_copy_23 : decode cX8_copy 23 = .ok (.goto (-21), 3) := by decide +kernel
theorem dX8_copy_26 : decode cX8_copy 26 = .ok (.return_, 1) := by decide +kernel
theorem dX8_closedRound_0 : decode cX8_closedRound 0 = .ok (.iload_n 0, 1) := by decide +kernel
theorem dX8_closedRound_1 : decode cX8_closedRound 1 = .ok (.ifCond .ge 7, 3) := by decide +kernel
theorem dX8_closedRound_4 : decode cX8_closedRound 4 = .ok (.iload_n 0, 1) := by decide +kernel
theorem dX8_closedRound_5 : decode cX8_closedRound 5 = .ok (.iload_n 1, 1) := by decide +kernel
theorem dX8_closedRound_6 : decode cX8_closedRound 6 = .ok (.iadd, 1) := by decide +kernel
theorem dX8_closedRound_7 : decode cX8_closedRound 7 = .ok (.ireturn, 1) := by decide +kernel
theorem dX8_closedRound_8 : decode cX8_closedRound 8 = .ok (.iload_n 0, 1) := by decide +kernel
theorem dX8_closedRound_9 : decode cX8_closedRound 9 = .ok (.iload_n 1, 1) := by decide +kernel
theorem dX8_closedRound_10 : decode cX8_closedRound 10 = .ok (.if_icmp .lt 9, 3) := by decide +kernel
theorem dX8_closedRound_13 : decode cX8_closedRound 13 = .ok (.iload_n 0, 1) := by decide +kernel
theorem dX8_closedRound_14 : decode cX8_closedRound 14 = .ok (.iload_n 1, 1) := by decide +kernel
theorem dX8_closedRound_15 : decode cX8_closedRound 15 = .ok (.isub, 1) := by decide +kernel
theorem dX8_closedRound_16 : decode cX8_closedRound 16 = .ok (.goto 4, 3) := by decide +kernel
theorem dX8_closedRound_19 : decode cX8_closedRound 19 = .ok (.iload_n 0, 1) := by decide +kernel
theorem dX8_closedRound_20 : decode cX8_closedRound 20 = .ok (.ireturn, 1) := by decide +kernel
theorem dJ6_bitCount_0f7a4_0 : decode cJ6_bitCount_0f7a4 0 = .ok (.iload_n 0, 1) := by decide +kernel
theorem dJ6_bitCount_0f7a4_1 : decode cJ6_bitCount_0f7a4 1 = .ok (.iload_n 0, 1) := by decide +kernel
theorem dJ6_bitCount_0f7a4_2 : decode cJ6_bitCount_0f7a4 2 = .ok (.iconst 1, 1) := by decide +kernel
theorem dJ6_bitCount_0f7a4_3 : decode cJ6_bitCount_0f7a4 3 = .ok (.iushr, 1) := by decide +kernel
theorem dJ6_bitCount_0f7a4_4 : decode cJ6_bitCount_0f7a4 4 = .ok (.ldc_w 265, 3) := by decide +kernel
theorem dJ6_bitCount_0f7a4_7 : decode cJ6_bitCount_0f7a4 7 = .ok (.iand, 1) := by decide +kernel
theorem dJ6_bitCount_0f7a4_8 : decode cJ6_bitCount_0f7a4 8 = .ok (.isub, 1) := by decide +kernel
theorem dJ6_bitCount_0f7a4_9 : decode cJ6_bitCount_0f7a4 9 = .ok (.istore_n 0, 1) := by decide +kernel
theorem dJ6_bitCount_0f7a4_10 : decode cJ6_bitCount_0f7a4 10 = .ok (.iload_n 0, 1) := by decide +kernel
theorem dJ6_bitCount_0f7a4_11 : decode cJ6_bitCount_0f7a4 11 = .ok (.ldc_w 266, 3) := by decide +kernel
theorem dJ6_bitCount_0f7a4_14 : decode cJ6_bitCount_0f7a4 14 = .ok (.iand, 1) := by decide +kernel
theorem dJ6_bitCount_0f7a4_15 : decode cJ6_bitCount_0f7a4 15 = .ok (.iload_n 0, 1) := by decide +kernel
theorem dJ6_bitCount_0f7a4_16 : decode cJ6_bitCount_0f7a4 16 = .ok (.iconst 2, 1) := by decide +kernel
theorem dJ6_bitCount_0f7a4_17 : decode cJ6_bitCount_0f7a4 17 = .ok (.iushr, 1) := by decide +kernel
theorem dJ6_bitCount_0f7a4_18 : decode cJ6_bitCount_0f7a4 18 = .ok (.ldc_w 266, 3) := by decide +kernel
theorem dJ6_bitCount_0f7a4_21 : decode cJ6_bitCount_0f7a4 21 = .ok (.iand, 1) := by decide +kernel
theorem dJ6_bitCount_0f7a4_22 : decode cJ6_bitCount_0f7a4 22 = .ok (.iadd, 1) := by decide +kernel
theorem dJ6_bitCount_0f7a4_23 : decode cJ6_bitCount_0f7a4 23 = .ok (.istore_n 0, 1) := by decide +kernel
theorem dJ6_bitCount_0f7a4_24 : decode cJ6_bitCount_0f7a4 24 = .ok (.iload_n 0, 1) := by decide +kernel
theorem dJ6_bitCount_0f7a4_25 : decode cJ6_bitCount_0f7a4 25 = .ok (.iload_n 0, 1) := by decide +kernel
theorem dJ6_bitCount_0f7a4_26 : decode cJ6_bitCount_0f7a4 26 = .ok (.iconst 4, 1) := by decide +kernel
theorem dJ6_bitCount_0f7a4_27 : decode cJ6_bitCount_0f7a4 27 = .ok (.iushr, 1) := by decide +kernel
theorem dJ6_bitCount_0f7a4_28 : decode cJ6_bitCount_0f7a4 28 = .ok (.iadd, 1) := by decide +kernel
theorem dJ6_bitCount_0f7a4_29 : decode cJ6_bitCount_0f7a4 29 = .ok (.ldc_w 267, 3) := by decide +kernel
theorem dJ6_bitCount_0f7a4_32 : decode cJ6_bitCount_0f7a4 32 = .ok (.iand, 1) := by decide +kernel
theorem dJ6_bitCount_0f7a4_33 : decode cJ6_bitCount_0f7a4 33 = .ok (.istore_n 0, 1) := by decide +kernel
theorem dJ6_bitCount_0f7a4_34 : decode cJ6_bitCount_0f7a4 34 = .ok (.iload_n 0, 1) := by decide +kernel
theorem dJ6_bitCount_0f7a4_35 : decode cJ6_bitCount_0f7a4 35 = .ok (.iload_n 0, 1) := by decide +kernel
theorem dJ6_bitCount_0f7a4_36 : decode cJ6_bitCount_0f7a4 36 = .ok (.bipush 8, 2) := by decide +kernel
theorem dJ6_bitCount_0f7a4_38 : decode cJ6_bitCount_0f7a4 38 = .ok (.iushr, 1) := by decide +kernel
theorem dJ6_bitCount_0f7a4_39 : decode cJ6_bitCount_0f7a4 39 = .ok (.iadd, 1) := by decide +kernel
theorem dJ6_bitCount_0f7a4_40 : decode cJ6_bitCount_0f7a4 40 = .ok (.istore_n 0, 1) := by decide +kernel
theorem dJ6_bitCount_0f7a4_41 : decode cJ6_bitCount_0f7a4 41 = .ok (.iload_n 0, 1) := by decide +kernel
theorem dJ6_bitCount_0f7a4_42 : decode cJ6_bitCount_0f7a4 42 = .ok (.iload_n 0, 1) := by decide +kernel
theorem dJ6_bitCount_0f7a4_43 : decode cJ6_bitCount_0f7a4 43 = .ok (.bipush 16, 2) := by decide +kernel
theorem dJ6_bitCount_0f7a4_45 : decode cJ6_bitCount_0f7a4 45 = .ok (.iushr, 1) := by decide +kernel
theorem dJ6_bitCount_0f7a4_46 : decode cJ6_bitCount_0f7a4 46 = .ok (.iadd, 1) := by decide +kernel
theorem dJ6_bitCount_0f7a4_47 : decode cJ6_bitCount_0f7a4 47 = .ok (.istore_n 0, 1) := by decide +kernel
theorem dJ6_bitCount_0f7a4_48 : decode cJ6_bitCount_0f7a4 48 = .ok (.iload_n 0, 1) := by decide +kernel
theorem dJ6_bitCount_0f7a4_49 : decode cJ6_bitCount_0f7a4 49 = .ok (.bipush 63, 2) := by decide +kernel
theorem dJ6_bitCount_0f7a4_51 : decode cJ6_bitCount_0f7a4 51 = .ok (.iand, 1) := by decide +kernel
theorem dJ6_bitCount_0f7a4_52 : decode cJ6_bitCount_0f7a4 52 = .ok (.ireturn, 1) := by decide +kernel
theorem dJ9_max_7cf53_0 : decode cJ9_max_7cf53 0 = .ok (.iload_n 0, 1) := by decide +kernel
theorem dJ9_max_7cf53_1 : decode cJ9_max_7cf53 1 = .ok (.iload_n 1, 1) := by decide +kernel
theorem dJ9_max_7cf53_2 : decode cJ9_max_7cf53 2 = .ok (.if_icmp .lt 7, 3) := by decide +kernel
theorem dJ9_max_7cf53_5 : decode cJ9_max_7cf53 5 = .ok (.iload_n 0, 1) := by decide +kernel
theorem dJ9_max_7cf53_6 : decode cJ9_max_7cf53 6 = .ok (.goto 4, 3) := by decide +kernel
theorem dJ9_max_7cf53_9 : decode cJ9_max_7cf53 9 = .ok (.iload_n 1, 1) := by decide +kernel
theorem dJ9_max_7cf53_10 : decode cJ9_max_7cf53 10 = .ok (.ireturn, 1) := by decide +kernel
