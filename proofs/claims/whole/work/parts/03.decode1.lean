theorem dX0_init_0 : decode cX0_init 0 = .ok (.aload_n 0, 1) := by decide +kernel
theorem dX0_init_1 : decode cX0_init 1 = .ok (.invokespecial 1, 3) := by decide +kernel
theorem dX0_init_4 : decode cX0_init 4 = .ok (.aload_n 0, 1) := by decide +kernel
theorem dX0_init_5 : decode cX0_init 5 = .ok (.iload_n 1, 1) := by decide +kernel
theorem dX0_init_6 : decode cX0_init 6 = .ok (.putfield 7, 3) := by decide +kernel
theorem dX0_init_9 : decode cX0_init 9 = .ok (.aload_n 0, 1) := by decide +kernel
theorem dX0_init_10 : decode cX0_init 10 = .ok (.lload_n 2, 1) := by decide +kernel
theorem dX0_init_11 : decode cX0_init 11 = .ok (.putfield 13, 3) := by decide +kernel
theorem dX0_init_14 : decode cX0_init 14 = .ok (.aload_n 0, 1) := by decide +kernel
theorem dX0_init_15 : decode cX0_init 15 = .ok (.lload 4, 2) := by decide +kernel
theorem dX0_init_17 : decode cX0_init 17 = .ok (.putfield 17, 3) := by decide +kernel
theorem dX0_init_20 : decode cX0_init 20 = .ok (.return_, 1) := by decide +kernel
theorem dX0_isBefore_0 : decode cX0_isBefore 0 = .ok (.aload_n 0, 1) := by decide +kernel
theorem dX0_isBefore_1 : decode cX0_isBefore 1 = .ok (.getfield 13, 3) := by decide +kernel
theorem dX0_isBefore_4 : decode cX0_isBefore 4 = .ok (.aload_n 1, 1) := by decide +kernel
theorem dX0_isBefore_5 : decode cX0_isBefore 5 = .ok (.getfield 13, 3) := by decide +kernel
theorem dX0_isBefore_8 : decode cX0_isBefore 8 = .ok (.lcmp, 1) := by decide +kernel
theorem dX0_isBefore_9 : decode cX0_isBefore 9 = .ok (.ifCond .eq 21, 3) := by decide +kernel
theorem dX0_isBefore_12 : decode cX0_isBefore 12 = .ok (.aload_n 0, 1) := by decide +kernel
theorem dX0_isBefore_13 : decode cX0_isBefore 13 = .ok (.getfield 13, 3) := by decide +kernel
theorem dX0_isBefore_16 : decode cX0_isBefore 16 = .ok (.aload_n 1, 1) := by decide +kernel
theorem dX0_isBefore_17 : decode cX0_isBefore 17 = .ok (.getfield 13, 3) := by decide +kernel
theorem dX0_isBefore_20 : decode cX0_isBefore 20 = .ok (.lcmp, 1) := by decide +kernel
theorem dX0_isBefore_21 : decode cX0_isBefore 21 = .ok (.ifCond .ge 7, 3) := by decide +kernel
theorem dX0_isBefore_24 : decode cX0_isBefore 24 = .ok (.iconst 1, 1) := by decide +kernel
theorem dX0_isBefore_25 : decode cX0_isBefore 25 = .ok (.goto 4, 3) := by decide +kernel
theorem dX0_isBefore_28 : decode cX0_isBefore 28 = .ok (.iconst 0, 1) := by decide +kernel
theorem dX0_isBefore_29 : decode cX0_isBefore 29 = .ok (.ireturn, 1) := by decide +kernel
theorem dX0_isBefore_30 : decode cX0_isBefore 30 = .ok (.aload_n 0, 1) := by decide +kernel
theorem dX0_isBefore_31 : decode cX0_isBefore 31 = .ok (.getfield 17, 3) := by decide +kernel
theorem dX0_isBefore_34 : decode cX0_isBefore 34 = .ok (.aload_n 1, 1) := by decide +kernel
theorem dX0_isBefore_35 : decode cX0_isBefore 35 = .ok (.getfield 17, 3) := by decide +kernel
theorem dX0_isBefore_38 : decode cX0_isBefore 38 = .ok (.lcmp, 1) := by decide +kernel
theorem dX0_isBefore_39 : decode cX0_isBefore 39 = .ok (.ifCond .eq 23, 3) := by decide +kernel
theorem dX0_isBefore_42 : decode cX0_isBefore 42 = .ok (.aload_n 0, 1) := by decide +kernel
theorem dX0_isBefore_43 : decode cX0_isBefore 43 = .ok (.getfield 17, 3) := by decide +kernel
theorem dX0_isBefore_46 : decode cX0_isBefore 46 = .ok (.aload_n 1, 1) := by decide +kernel
theorem dX0_isBefore_47 : decode cX0_isBefore 47 = .ok (.getfield 17, 3) := by decide +kernel
theorem dX0_isBefore_50 : decode cX0_isBefore 50 = .ok (.lcmp, 1) := by decide +kernel
theorem dX0_isBefore_51 : decode cX0_isBefore 51 = .ok (.ifCond .ge 7, 3) := by decide +kernel
theorem dX0_isBefore_54 : decode cX0_isBefore 54 = .ok (.iconst 1, 1) := by decide +kernel
theorem dX0_isBefore_55 : decode cX0_isBefore 55 = .ok (.goto 23, 3) := by decide +kernel
theorem dX0_isBefore_58 : decode cX0_isBefore 58 = .ok (.iconst 0, 1) := by decide +kernel
theorem dX0_isBefore_59 : decode cX0_isBefore 59 = .ok (.goto 19, 3) := by decide +kernel
theorem dX0_isBefore_62 : decode cX0_isBefore 62 = .ok (.aload_n 0, 1) := by decide +kernel
theorem dX0_isBefore_63 : decode cX0_isBefore 63 = .ok (.getfield 7, 3) := by decide +kernel
theorem dX0_isBefore_66 : decode cX0_isBefore 66 = .ok (.aload_n 1, 1) := by decide +kernel
theorem dX0_isBefore_67 : decode cX0_isBefore 67 = .ok (.getfield 7, 3) := by decide +kernel
theorem dX0_isBefore_70 : decode cX0_isBefore 70 = .ok (.if_icmp .ge 7, 3) := by decide +kernel
theorem dX0_isBefore_73 : decode cX0_isBefore 73 = .ok (.iconst 1, 1) := by decide +kernel
theorem dX0_isBefore_74 : decode cX0_isBefore 74 = .ok (.goto 4, 3) := by decide +kernel
theorem dX0_isBefore_77 : decode cX0_isBefore 77 = .ok (.iconst 0, 1) := by decide +kernel
theorem dX0_isBefore_78 : decode cX0_isBefore 78 = .ok (.ireturn, 1) := by decide +kernel
theorem dX0_isAt_0 : decode cX0_isAt 0 = .ok (.aload_n 0, 1) := by decide +kernel
theorem dX0_isAt_1 : decode cX0_isAt 1 = .ok (.getfield 13, 3) := by decide +kernel
theorem dX0_isAt_4 : decode cX0_isAt 4 = .ok (.aload_n 1, 1) := by decide +kernel
theorem dX0_isAt_5 : decode cX0_isAt 5 = .ok (.getfield 13, 3) := by decide +kernel
theorem dX0_isAt_8 : decode cX0_isAt 8 = .ok (.lcmp, 1) := by decide +kernel
theorem dX0_isAt_9 : decode cX0_isAt 9 = .ok (.ifCond .ne 19, 3) := by decide +kernel
theorem dX0_isAt_12 : decode cX0_isAt 12 = .ok (.aload_n 0, 1) := by decide +kernel
theorem dX0_isAt_13 : decode cX0_isAt 13 = .ok (.getfield 17, 3) := by decide +kernel
theorem dX0_isAt_16 : decode cX0_isAt 16 = .ok (.aload_n 1, 1) := by decide +kernel
theorem dX0_isAt_17 : decode cX0_isAt 17 = .ok (.getfield 17, 3) := by decide +kernel
theorem dX0_isAt_20 : decode cX0_isAt 20 = .ok (.lcmp, 1) := by decide +kernel
theorem dX0_isAt_21 : decode cX0_isAt 21 = .ok (.ifCond .ne 7, 3) := by decide +kernel
theorem dX0_isAt_24 : decode cX0_isAt 24 = .ok (.iconst 1, 1) := by decide +kernel
theorem dX0_isAt_25 : decode cX0_isAt 25 = .ok (.goto 4, 3) := by decide +kernel
theorem dX0_isAt_28 : decode cX0_isAt 28 = .ok (.iconst 0, 1) := by decide +kernel
theorem dX0_isAt_29 : decode cX0_isAt 29 = .ok (.ireturn, 1) := by decide +kernel
theorem dX0_turn_0 : decode cX0_turn 0 = .ok (.aload_n 1, 1) := by decide +kernel
theorem dX0_turn_1 : decode cX0_turn 1 = .ok (.getfield 13, 3) := by decide +kernel
theorem dX0_turn_4 : decode cX0_turn 4 = .ok (.aload_n 0, 1) := by decide +kernel
theorem dX0_turn_5 : decode cX0_turn 5 = .ok (.getfield 13, 3) := by decide +kernel
theorem dX0_turn_8 : decode cX0_turn 8 = .ok (.lsub, 1) := by decide +kernel
theorem dX0_turn_9 : decode cX0_turn 9 = .ok (.aload_n 2, 1) := by decide +kernel
theorem dX0_turn_10 : decode cX0_turn 10 = .ok (.getfield 17, 3) := by decide +kernel
theorem dX0_turn_13 : decode cX0_turn 13 = .ok (.aload_n 0, 1) := by decide +kernel
theorem dX0_turn_14 : decode cX0_turn 14 = .ok (.getfield 17, 3) := by decide +kernel
theorem dX0_turn_17 : decode cX0_turn 17 = .ok (.lsub, 1) := by decide +kernel
theorem dX0_turn_18 : decode cX0_turn 18 = .ok (.lmul, 1) := by decide +kernel
theorem dX0_turn_19 : decode cX0_turn 19 = .ok (.aload_n 1, 1) := by decide +kernel
theorem dX0_turn_20 : decode cX0_turn 20 = .ok (.getfield 17, 3) := by decide +kernel
theorem dX0_turn_23 : decode cX0_turn 23 = .ok (.aload_n 0, 1) := by decide +kernel
theorem dX0_turn_24 : decode cX0_turn 24 = .ok (.getfield 17, 3) := by decide +kernel
theorem dX0_turn_27 : decode cX0_turn 27 = .ok (.lsub, 1) := by decide +kernel
theorem dX0_turn_28 : decode cX0_turn 28 = .ok (.aload_n 2, 1) := by decide +kernel
theorem dX0_turn_29 : decode cX0_turn 29 = .ok (.getfield 13, 3) := by decide +kernel
theorem dX0_turn_32 : decode cX0_turn 32 = .ok (.aload_n 0, 1) := by decide +kernel
theorem dX0_turn_33 : decode cX0_turn 33 = .ok (.getfield 13, 3) := by decide +kernel
theorem dX0_turn_36 : decode cX0_turn 36 = .ok (.lsub, 1) := by decide +kernel
theorem dX0_turn_37 : decode cX0_turn 37 = .ok (.lmul, 1) := by decide +kernel
theorem dX0_turn_38 : decode cX0_turn 38 = .ok (.lsub, 1) := by decide +kernel
theorem dX0_turn_39 : decode cX0_turn 39 = .ok (.lreturn, 1) := by decide +kernel
theorem dX0_squareTo_0 : decode cX0_squareTo 0 = .ok (.aload_n 1, 1) := by decide +kernel
theorem dX0_squareTo_1 : decode cX0_squareTo 1 = .ok (.getfield 13, 3) := by decide +kernel
theorem dX0_squareTo_4 : decode cX0_squareTo 4 = .ok (.aload_n 0, 1) := by decide +kernel
theorem dX0_squareTo_5 : decode cX0_squareTo 5 = .ok (.getfield 13, 3) := by decide +kernel
theorem dX0_squareTo_8 : decode cX0_squareTo 8 = .ok (.lsub, 1) := by decide +kernel
theorem dX0_squareTo_9 : decode cX0_squareTo 9 = .ok (.aload_n 1, 1) := by decide +kernel
theorem dX0_squareTo_10 : decode cX0_squareTo 10 = .ok (.getfield 13, 3) := by decide +kernel
theorem dX0_squareTo_13 : decode cX0_squareTo 13 = .ok (.aload_n 0, 1) := by decide +kernel
theorem dX0_squareTo_14 : decode cX0_squareTo 14 = .ok (.getfield 13, 3) := by decide +kernel
theorem dX0_squareTo_17 : decode cX0_squareTo 17 = .ok (.lsub, 1) := by decide +kernel
theorem dX0_squareTo_18 : decode cX0_squareTo 18 = .ok (.lmul, 1) := by decide +kernel
theorem dX0_squareTo_19 : decode cX0_squareTo 19 = .ok (.aload_n 1, 1) := by decide +kernel
theorem dX0_squareTo_20 : decode cX0_squareTo 20 = .ok (.getfield 17, 3) := by decide +kernel
theorem dX0_squareTo_23 : decode cX0_squareTo 23 = .ok (.aload_n 0, 1) := by decide +kernel
theorem dX0_squareTo_24 : decode cX0_squareTo 24 = .ok (.getfield 17, 3) := by decide +kernel
theorem dX0_squareTo_27 : decode cX0_squareTo 27 = .ok (.lsub, 1) := by decide +kernel
theorem dX0_squareTo_28 : decode cX0_squareTo 28 = .ok (.aload_n 1, 1) := by decide +kernel
theorem dX0_squareTo_29 : decode cX0_squareTo 29 = .ok (.getfield 17, 3) := by decide +kernel
theorem dX0_squareTo_32 : decode cX0_squareTo 32 = .ok (.aload_n 0, 1) := by decide +kernel
theorem dX0_squareTo_33 : decode cX0_squareTo 33 = .ok (.getfield 17, 3) := by decide +kernel
theorem dX0_squareTo_36 : decode cX0_squareTo 36 = .ok (.lsub, 1) := by decide +kernel
theorem dX0_squareTo_37 : decode cX0_squareTo 37 = .ok (.lmul, 1) := by decide +kernel
theorem dX0_squareTo_38 : decode cX0_squareTo 38 = .ok (.ladd, 1) := by decide +kernel
theorem dX0_squareTo_39 : decode cX0_squareTo 39 = .ok (.lreturn, 1) := by decide +kernel
theorem dX0_seesMoreRightOf_0 : decode cX0_seesMoreRightOf 0 = .ok (.aload_n 0, 1) := by decide +kernel
theorem dX0_seesMoreRightOf_1 : decode cX0_seesMoreRightOf 1 = .ok (.aload_n 2, 1) := by decide +kernel
theorem dX0_seesMoreRightOf_2 : decode cX0_seesMoreRightOf 2 = .ok (.invokevirtual 20, 3) := by decide +kernel
theorem dX0_seesMoreRightOf_5 : decode cX0_seesMoreRightOf 5 = .ok (.ifCond .eq 5, 3) := by decide +kernel
theorem dX0_seesMoreRightOf_8 : decode cX0_seesMoreRightOf 8 = .ok (.iconst 0, 1) := by decide +kernel
theorem dX0_seesMoreRightOf_9 : decode cX0_seesMoreRightOf 9 = .ok (.ireturn, 1) := by decide +kernel
theorem dX0_seesMoreRightOf_10 : decode cX0_seesMoreRightOf 10 = .ok (.aload_n 0, 1) := by decide +kernel
theorem dX0_seesMoreRightOf_11 : decode cX0_seesMoreRightOf 11 = .ok (.aload_n 1, 1) := by decide +kernel
theorem dX0_seesMoreRightOf_12 : decode cX0_seesMoreRightOf 12 = .ok (.invokevirtual 20, 3) := by decide +kernel
theorem dX0_seesMoreRightOf_15 : decode cX0_seesMoreRightOf 15 = .ok (.ifCond .eq 5, 3) := by decide +kernel
theorem dX0_seesMoreRightOf_18 : decode cX0_seesMoreRightOf 18 = .ok (.iconst 1, 1) := by decide +kernel
theorem dX0_seesMoreRightOf_19 : decode cX0_seesMoreRightOf 19 = .ok (.ireturn, 1) := by decide +kernel
theorem dX0_seesMoreRightOf_20 : decode cX0_seesMoreRightOf 20 = .ok (.aload_n 0, 1) := by decide +kernel
theorem dX0_seesMoreRightOf_21 : decode cX0_seesMoreRightOf 21 = .ok (.aload_n 1, 1) := by decide +kernel
theorem dX0_seesMoreRightOf_22 : decode cX0_seesMoreRightOf 22 = .ok (.aload_n 2, 1) := by decide +kernel
theorem dX0_seesMoreRightOf_23 : decode cX0_seesMoreRightOf 23 = .ok (.invokevirtual 24, 3) := by decide +kernel
theorem dX0_seesMoreRightOf_26 : decode cX0_seesMoreRightOf 26 = .ok (.lstore_n 3, 1) := by decide +kernel
theorem dX0_seesMoreRightOf_27 : decode cX0_seesMoreRightOf 27 = .ok (.lload_n 3, 1) := by decide +kernel
theorem dX0_seesMoreRightOf_28 : decode cX0_seesMoreRightOf 28 = .ok (.lconst 0, 1) := by decide +kernel
theorem dX0_seesMoreRightOf_29 : decode cX0_seesMoreRightOf 29 = .ok (.lcmp, 1) := by decide +kernel
theorem dX0_seesMoreRightOf_30 : decode cX0_seesMoreRightOf 30 = .ok (.ifCond .lt 23, 3) := by decide +kernel
theorem dX0_seesMoreRightOf_33 : decode cX0_seesMoreRightOf 33 = .ok (.lload_n 3, 1) := by decide +kernel
theorem dX0_seesMoreRightOf_34 : decode cX0_seesMoreRightOf 34 = .ok (.lconst 0, 1) := by decide +kernel
theorem dX0_seesMoreRightOf_35 : decode cX0_seesMoreRightOf 35 = .ok (.lcmp, 1) := by decide +kernel
theorem dX0_seesMoreRightOf_36 : decode cX0_seesMoreRightOf 36 = .ok (.ifCond .ne 21, 3) := by decide +kernel
theorem dX0_seesMoreRightOf_39 : decode cX0_seesMoreRightOf 39 = .ok (.aload_n 0, 1) := by decide +kernel
theorem dX0_seesMoreRightOf_40 : decode cX0_seesMoreRightOf 40 = .ok (.aload_n 2, 1) := by decide +kernel
theorem dX0_seesMoreRightOf_41 : decode cX0_seesMoreRightOf 41 = .ok (.invokevirtual 28, 3) := by decide +kernel
theorem dX0_seesMoreRightOf_44 : decode cX0_seesMoreRightOf 44 = .ok (.aload_n 0, 1) := by decide +kernel
theorem dX0_seesMoreRightOf_45 : decode cX0_seesMoreRightOf 45 = .ok (.aload_n 1, 1) := by decide +kernel
theorem dX0_seesMoreRightOf_46 : decode cX0_seesMoreRightOf 46 = .ok (.invokevirtual 28, 3) := by decide +kernel
theorem dX0_seesMoreRightOf_49 : decode cX0_seesMoreRightOf 49 = .ok (.lcmp, 1) := by decide +kernel
theorem dX0_seesMoreRightOf_50 : decode cX0_seesMoreRightOf 50 = .ok (.ifCond .le 7, 3) := by decide +kernel
theorem dX0_seesMoreRightOf_53 : decode cX0_seesMoreRightOf 53 = .ok (.iconst 1, 1) := by decide +kernel
theorem dX0_seesMoreRightOf_54 : decode cX0_seesMoreRightOf 54 = .ok (.goto 4, 3) := by decide +kernel
theorem dX0_seesMoreRightOf_57 : decode cX0_seesMoreRightOf 57 = .ok (.iconst 0, 1) := by decide +kernel
theorem dX0_seesMoreRightOf_58 : decode cX0_seesMoreRightOf 58 = .ok (.ireturn, 1) := by decide +kernel
theorem dX1_init_0 : decode cX1_init 0 = .ok (.aload_n 0, 1) := by decide +kernel
theorem dX1_init_1 : decode cX1_init 1 = .ok (.invokespecial 3, 3) := by decide +kernel
theorem dX1_init_4 : decode cX1_init 4 = .ok (.aload_n 0, 1) := by decide +kernel
theorem dX1_init_5 : decode cX1_init 5 = .ok (.lload_n 1, 1) := by decide +kernel
theorem dX1_init_6 : decode cX1_init 6 = .ok (.putfield 9, 3) := by decide +kernel
theorem dX1_init_9 : decode cX1_init 9 = .ok (.aload_n 0, 1) := by decide +kernel
theorem dX1_init_10 : decode cX1_init 10 = .ok (.lload_n 3, 1) := by decide +kernel
theorem dX1_init_11 : decode cX1_init 11 = .ok (.putfield 15, 3) := by decide +kernel
theorem dX1_init_14 : decode cX1_init 14 = .ok (.aload_n 0, 1) := by decide +kernel
theorem dX1_init_15 : decode cX1_init 15 = .ok (.lload 5, 2) := by decide +kernel
theorem dX1_init_17 : decode cX1_init 17 = .ok (.putfield 18, 3) := by decide +kernel
theorem dX1_init_20 : decode cX1_init 20 = .ok (.aload_n 0, 1) := by decide +kernel
theorem dX1_init_21 : decode cX1_init 21 = .ok (.lload 7, 2) := by decide +kernel
theorem dX1_init_23 : decode cX1_init 23 = .ok (.putfield 21, 3) := by decide +kernel
theorem dX1_init_26 : decode cX1_init 26 = .ok (.aload_n 0, 1) := by decide +kernel
theorem dX1_init_27 : decode cX1_init 27 = .ok (.iconst (-1), 1) := by decide +kernel
theorem dX1_init_28 : decode cX1_init 28 = .ok (.putfield 24, 3) := by decide +kernel
theorem dX1_init_31 : decode cX1_init 31 = .ok (.aload_n 0, 1) := by decide +kernel
theorem dX1_init_32 : decode cX1_init 32 = .ok (.lconst 0, 1) := by decide +kernel
theorem dX1_init_33 : decode cX1_init 33 = .ok (.putfield 28, 3) := by decide +kernel
theorem dX1_init_36 : decode cX1_init 36 = .ok (.return_, 1) := by decide +kernel
theorem dX1_placeOn_0 : decode cX1_placeOn 0 = .ok (.iload_n 1, 1) := by decide +kernel
theorem dX1_placeOn_1 : decode cX1_placeOn 1 = .ok (.ifCond .ne 8, 3) := by decide +kernel
theorem dX1_placeOn_4 : decode cX1_placeOn 4 = .ok (.aload_n 0, 1) := by decide +kernel
theorem dX1_placeOn_5 : decode cX1_placeOn 5 = .ok (.getfield 9, 3) := by decide +kernel
theorem dX1_placeOn_8 : decode cX1_placeOn 8 = .ok (.lreturn, 1) := by decide +kernel
theorem dX1_placeOn_9 : decode cX1_placeOn 9 = .ok (.iload_n 1, 1) := by decide +kernel
theorem dX1_placeOn_10 : decode cX1_placeOn 10 = .ok (.iconst 1, 1) := by decide +kernel
theorem dX1_placeOn_11 : decode cX1_placeOn 11 = .ok (.if_icmp .ne 10, 3) := by decide +kernel
theorem dX1_placeOn_14 : decode cX1_placeOn 14 = .ok (.aload_n 0, 1) := by decide +kernel
theorem dX1_placeOn_15 : decode cX1_placeOn 15 = .ok (.getfield 15, 3) := by decide +kernel
theorem dX1_placeOn_18 : decode cX1_placeOn 18 = .ok (.goto 7, 3) := by decide +kernel
theorem dX1_placeOn_21 : decode cX1_placeOn 21 = .ok (.aload_n 0, 1) := by decide +kernel
theorem dX1_placeOn_22 : decode cX1_placeOn 22 = .ok (.getfield 18, 3) := by decide +kernel
theorem dX1_placeOn_25 : decode cX1_placeOn 25 = .ok (.lreturn, 1) := by decide +kernel
theorem dX1_momentAbout_0 : decode cX1_momentAbout 0 = .ok (.aload_n 0, 1) := by decide +kernel
theorem dX1_momentAbout_1 : decode cX1_momentAbout 1 = .ok (.getfield 24, 3) := by decide +kernel
theorem dX1_momentAbout_4 : decode cX1_momentAbout 4 = .ok (.iconst (-1), 1) := by decide +kernel
theorem dX1_momentAbout_5 : decode cX1_momentAbout 5 = .ok (.if_icmp .eq 15, 3) := by decide +kernel
theorem dX1_momentAbout_8 : decode cX1_momentAbout 8 = .ok (.aload_n 0, 1) := by decide +kernel
theorem dX1_momentAbout_9 : decode cX1_momentAbout 9 = .ok (.getfield 24, 3) := by decide +kernel
theorem dX1_momentAbout_12 : decode cX1_momentAbout 12 = .ok (.iload_n 2, 1) := by decide +kernel
theorem dX1_momentAbout_13 : decode cX1_momentAbout 13 = .ok (.if_icmp .ge 7, 3) := by decide +kernel
theorem dX1_momentAbout_16 : decode cX1_momentAbout 16 = .ok (.iconst 1, 1) := by decide +kernel
theorem dX1_momentAbout_17 : decode cX1_momentAbout 17 = .ok (.goto 4, 3) := by decide +kernel
theorem dX1_momentAbout_20 : decode cX1_momentAbout 20 = .ok (.iconst 0, 1) := by decide +kernel
theorem dX1_momentAbout_21 : decode cX1_momentAbout 21 = .ok (.istore_n 3, 1) := by decide +kernel
theorem dX1_momentAbout_22 : decode cX1_momentAbout 22 = .ok (.aload_n 0, 1) := by decide +kernel
theorem dX1_momentAbout_23 : decode cX1_momentAbout 23 = .ok (.getfield 21, 3) := by decide +kernel
theorem dX1_momentAbout_26 : decode cX1_momentAbout 26 = .ok (.aload_n 1, 1) := by decide +kernel
theorem dX1_momentAbout_27 : decode cX1_momentAbout 27 = .ok (.aload_n 0, 1) := by decide +kernel
theorem dX1_momentAbout_28 : decode cX1_momentAbout 28 = .ok (.getfield 9, 3) := by decide +kernel
theorem dX1_momentAbout_31 : decode cX1_momentAbout 31 = .ok (.iload_n 3, 1) := by decide +kernel
theorem dX1_momentAbout_32 : decode cX1_momentAbout 32 = .ok (.ifCond .eq 15, 3) := by decide +kernel
theorem dX1_momentAbout_35 : decode cX1_momentAbout 35 = .ok (.aload_n 0, 1) := by decide +kernel
theorem dX1_momentAbout_36 : decode cX1_momentAbout 36 = .ok (.getfield 15, 3) := by decide +kernel
theorem dX1_momentAbout_39 : decode cX1_momentAbout 39 = .ok (.aload_n 0, 1) := by decide +kernel
theorem dX1_momentAbout_40 : decode cX1_momentAbout 40 = .ok (.getfield 28, 3) := by decide +kernel
theorem dX1_momentAbout_43 : decode cX1_momentAbout 43 = .ok (.ladd, 1) := by decide +kernel
theorem dX1_momentAbout_44 : decode cX1_momentAbout 44 = .ok (.goto 7, 3) := by decide +kernel
theorem dX1_momentAbout_47 : decode cX1_momentAbout 47 = .ok (.aload_n 0, 1) := by decide +kernel
theorem dX1_momentAbout_48 : decode cX1_momentAbout 48 = .ok (.getfield 15, 3) := by decide +kernel
theorem dX1_momentAbout_51 : decode cX1_momentAbout 51 = .ok (.invokevirtual 31, 3) := by decide +kernel
theorem dX1_momentAbout_54 : decode cX1_momentAbout 54 = .ok (.lmul, 1) := by decide +kernel
theorem dX1_momentAbout_55 : decode cX1_momentAbout 55 = .ok (.lreturn, 1) := by decide +kernel
theorem dX2_init_0 : decode cX2_init 0 = .ok (.aload_n 0, 1) := by decide +kernel
theorem dX2_init_1 : decode cX2_init 1 = .ok (.invokespecial 1, 3) := by decide +kernel
theorem dX2_init_4 : decode cX2_init 4 = .ok (.aload_n 0, 1) := by decide +kernel
theorem dX2_init_5 : decode cX2_init 5 = .ok (.aload_n 1, 1) := by decide +kernel
theorem dX2_init_6 : decode cX2_init 6 = .ok (.putfield 7, 3) := by decide +kernel
theorem dX2_init_9 : decode cX2_init 9 = .ok (.aload_n 0, 1) := by decide +kernel
theorem dX2_init_10 : decode cX2_init 10 = .ok (.aload_n 2, 1) := by decide +kernel
theorem dX2_init_11 : decode cX2_init 11 = .ok (.putfield 13, 3) := by decide +kernel
theorem dX2_init_14 : decode cX2_init 14 = .ok (.return_, 1) := by decide +kernel
theorem dX2_turnTo_0 : decode cX2_turnTo 0 = .ok (.aload_n 0, 1) := by decide +kernel
theorem dX2_turnTo_1 : decode cX2_turnTo 1 = .ok (.getfield 13, 3) := by decide +kernel
theorem dX2_turnTo_4 : decode cX2_turnTo 4 = .ok (.getfield 16, 3) := by decide +kernel
theorem dX2_turnTo_7 : decode cX2_turnTo 7 = .ok (.aload_n 0, 1) := by decide +kernel
theorem dX2_turnTo_8 : decode cX2_turnTo 8 = .ok (.getfield 7, 3) := by decide +kernel
theorem dX2_turnTo_11 : decode cX2_turnTo 11 = .ok (.getfield 16, 3) := by decide +kernel
theorem dX2_turnTo_14 : decode cX2_turnTo 14 = .ok (.lsub, 1) := by decide +kernel
theorem dX2_turnTo_15 : decode cX2_turnTo 15 = .ok (.lload_n 3, 1) := by decide +kernel
theorem dX2_turnTo_16 : decode cX2_turnTo 16 = .ok (.aload_n 0, 1) := by decide +kernel
theorem dX2_turnTo_17 : decode cX2_turnTo 17 = .ok (.getfield 7, 3) := by decide +kernel
theorem dX2_turnTo_20 : decode cX2_turnTo 20 = .ok (.getfield 22, 3) := by decide +kernel
theorem dX2_turnTo_23 : decode cX2_turnTo 23 = .ok (.lsub, 1) := by decide +kernel
theorem dX2_turnTo_24 : decode cX2_turnTo 24 = .ok (.lmul, 1) := by decide +kernel
theorem dX2_turnTo_25 : decode cX2_turnTo 25 = .ok (.aload_n 0, 1) := by decide +kernel
theorem dX2_turnTo_26 : decode cX2_turnTo 26 = .ok (.getfield 13, 3) := by decide +kernel
theorem dX2_turnTo_29 : decode cX2_turnTo 29 = .ok (.getfield 22, 3) := by decide +kernel
theorem dX2_turnTo_32 : decode cX2_turnTo 32 = .ok (.aload_n 0, 1) := by decide +kernel
theorem dX2_turnTo_33 : decode cX2_turnTo 33 = .ok (.getfield 7, 3) := by decide +kernel
theorem dX2_turnTo_36 : decode cX2_turnTo 36 = .ok (.getfield 22, 3) := by decide +kernel
theorem dX2_turnTo_39 : decode cX2_turnTo 39 = .ok (.lsub, 1) := by decide +kernel
theorem dX2_turnTo_40 : decode cX2_turnTo 40 = .ok (.lload_n 1, 1) := by decide +kernel
theorem dX2_turnTo_41 : decode cX2_turnTo 41 = .ok (.aload_n 0, 1) := by decide +kernel
theorem dX2_turnTo_42 : decode cX2_turnTo 42 = .ok (.getfield 7, 3) := by decide +kernel
theorem dX2_turnTo_45 : decode cX2_turnTo 45 = .ok (.getfield 16, 3) := by decide +kernel
theorem dX2_turnTo_48 : decode cX2_turnTo 48 = .ok (.lsub, 1) := by decide +kernel
theorem dX2_turnTo_49 : decode cX2_turnTo 49 = .ok (.lmul, 1) := by decide +kernel
theorem dX2_turnTo_50 : decode cX2_turnTo 50 = .ok (.lsub, 1) := by decide +kernel
theorem dX2_turnTo_51 : decode cX2_turnTo 51 = .ok (.lreturn, 1) := by decide +kernel
theorem dX3_init_0 : decode cX3_init 0 = .ok (.aload_n 0, 1) := by decide +kernel
theorem dX3_init_1 : decode cX3_init 1 = .ok (.invokespecial 1, 3) := by decide +kernel
theorem dX3_init_4 : decode cX3_init 4 = .ok (.aload_n 0, 1) := by decide +kernel
theorem dX3_init_5 : decode cX3_init 5 = .ok (.aload_n 1, 1) := by decide +kernel
theorem dX3_init_6 : decode cX3_init 6 = .ok (.putfield 7, 3) := by decide +kernel
theorem dX3_init_9 : decode cX3_init 9 = .ok (.aload_n 0, 1) := by decide +kernel
theorem dX3_init_10 : decode cX3_init 10 = .ok (.iload_n 2, 1) := by decide +kernel
theorem dX3_init_11 : decode cX3_init 11 = .ok (.putfield 13, 3) := by decide +kernel
theorem dX3_init_14 : decode cX3_init 14 = .ok (.return_, 1) := by decide +kernel
theorem dX4_init_0 : decode cX4_init 0 = .ok (.aload_n 0, 1) := by decide +kernel
theorem dX4_init_1 : decode cX4_init 1 = .ok (.invokespecial 3, 3) := by decide +kernel
theorem dX4_init_4 : decode cX4_init 4 = .ok (.aload_n 0, 1) := by decide +kernel
theorem dX4_init_5 : decode cX4_init 5 = .ok (.aload_n 1, 1) := by decide +kernel
theorem dX4_init_6 : decode cX4_init 6 = .ok (.putfield 9, 3) := by decide +kernel
theorem dX4_init_9 : decode cX4_init 9 = .ok (.aload_n 0, 1) := by decide +kernel
theorem dX4_init_10 : decode cX4_init 10 = .ok (.new 15, 3) := by decide +kernel
theorem dX4_init_13 : decode cX4_init 13 = .ok (.dup, 1) := by decide +kernel
theorem dX4_init_14 : decode cX4_init 14 = .ok (.invokespecial 17, 3) := by decide +kernel
theorem dX4_init_17 : decode cX4_init 17 = .ok (.putfield 18, 3) := by decide +kernel
theorem dX4_init_20 : decode cX4_init 20 = .ok (.aload_n 0, 1) := by decide +kernel
theorem dX4_init_21 : decode cX4_init 21 = .ok (.iconst 0, 1) := by decide +kernel
theorem dX4_init_22 : decode cX4_init 22 = .ok (.putfield 22, 3) := by decide +kernel
theorem dX4_init_25 : decode cX4_init 25 = .ok (.aload_n 0, 1) := by decide +kernel
theorem dX4_init_26 : decode cX4_init 26 = .ok (.iconst 0, 1) := by decide +kernel
theorem dX4_init_27 : decode cX4_init 27 = .ok (.putfield 26, 3) := by decide +kernel
theorem dX4_init_30 : decode cX4_init 30 = .ok (.return_, 1) := by decide +kernel
theorem dX4_readTrials_0 : decode cX4_readTrials 0 = .ok (.iconst 0, 1) := by decide +kernel
theorem dX4_readTrials_1 : decode cX4_readTrials 1 = .ok (.istore_n 1, 1) := by decide +kernel
theorem dX4_readTrials_2 : decode cX4_readTrials 2 = .ok (.iload_n 1, 1) := by decide +kernel
theorem dX4_readTrials_3 : decode cX4_readTrials 3 = .ok (.bipush 12, 2) := by decide +kernel
theorem dX4_readTrials_5 : decode cX4_readTrials 5 = .ok (.if_icmp .ge 49, 3) := by decide +kernel
theorem dX4_readTrials_8 : decode cX4_readTrials 8 = .ok (.iload_n 1, 1) := by decide +kernel
theorem dX4_readTrials_9 : decode cX4_readTrials 9 = .ok (.ifCond .le 14, 3) := by decide +kernel
theorem dX4_readTrials_12 : decode cX4_readTrials 12 = .ok (.aload_n 0, 1) := by decide +kernel
theorem dX4_readTrials_13 : decode cX4_readTrials 13 = .ok (.bipush 59, 2) := by decide +kernel
theorem dX4_readTrials_15 : decode cX4_readTrials 15 = .ok (.invokevirtual 29, 3) := by decide +kernel
theorem dX4_readTrials_18 : decode cX4_readTrials 18 = .ok (.ifCond .ne 5, 3) := by decide +kernel
theorem dX4_readTrials_21 : decode cX4_readTrials 21 = .ok (.iconst 0, 1) := by decide +kernel
theorem dX4_readTrials_22 : decode cX4_readTrials 22 = .ok (.ireturn, 1) := by decide +kernel
theorem dX4_readTrials_23 : decode cX4_readTrials 23 = .ok (.aload_n 0, 1) := by decide +kernel
theorem dX4_readTrials_24 : decode cX4_readTrials 24 = .ok (.invokevirtual 33, 3) := by decide +kernel
theorem dX4_readTrials_27 : decode cX4_readTrials 27 = .ok (.ifCond .ne 5, 3) := by decide +kernel
theorem dX4_readTrials_30 : decode cX4_readTrials 30 = .ok (.iconst 0, 1) := by decide +kernel
theorem dX4_readTrials_31 : decode cX4_readTrials 31 = .ok (.ireturn, 1) := by decide +kernel
theorem dX4_readTrials_32 : decode cX4_readTrials 32 = .ok (.aload_n 0, 1) := by decide +kernel
theorem dX4_readTrials_33 : decode cX4_readTrials 33 = .ok (.getfield 22, 3) := by decide +kernel
theorem dX4_readTrials_36 : decode cX4_readTrials 36 = .ok (.aload_n 0, 1) := by decide +kernel
theorem dX4_readTrials_37 : decode cX4_readTrials 37 = .ok (.getfield 9, 3) := by decide +kernel
theorem dX4_readTrials_40 : decode cX4_readTrials 40 = .ok (.invokevirtual 37, 3) := by decide +kernel
theorem dX4_readTrials_43 : decode cX4_readTrials 43 = .ok (.if_icmp .lt 5, 3) := by decide +kernel
theorem dX4_readTrials_46 : decode cX4_readTrials 46 = .ok (.iconst 1, 1) := by decide +kernel
theorem dX4_readTrials_47 : decode cX4_readTrials 47 = .ok (.ireturn, 1) := by decide +kernel
theorem dX4_readTrials_48 : decode cX4_readTrials 48 = .ok (.iinc 1 1, 3) := by decide +kernel
theorem dX4_readTrials_51 : decode cX4_readTrials 51 = .ok (.goto (-49), 3) := by decide +kernel
theorem dX4_readTrials_54 : decode cX4_readTrials 54 = .ok (.iconst 0, 1) := by decide +kernel
theorem dX4_readTrials_55 : decode cX4_readTrials 55 = .ok (.ireturn, 1) := by decide +kernel
theorem dX4_readTrial_0 : decode cX4_readTrial 0 = .ok (.aload_n 0, 1) := by decide +kernel
theorem dX4_readTrial_1 : decode cX4_readTrial 1 = .ok (.invokevirtual 43, 3) := by decide +kernel
theorem dX4_readTrial_4 : decode cX4_readTrial 4 = .ok (.ifCond .eq 12, 3) := by decide +kernel
theorem dX4_readTrial_7 : decode cX4_readTrial 7 = .ok (.aload_n 0, 1) := by decide +kernel
theorem dX4_readTrial_8 : decode cX4_readTrial 8 = .ok (.bipush 44, 2) := by decide +kernel
theorem dX4_readTrial_10 : decode cX4_readTrial 10 = .ok (.invokevirtual 29, 3) := by decide +kernel
theorem dX4_readTrial_13 : decode cX4_readTrial 13 = .ok (.ifCond .ne 5, 3) := by decide +kernel
theorem dX4_readTrial_16 : decode cX4_readTrial 16 = .ok (.iconst 0, 1) := by decide +kernel
theorem dX4_readTrial_17 : decode cX4_readTrial 17 = .ok (.ireturn, 1) := by decide +kernel
theorem dX4_readTrial_18 : decode cX4_readTrial 18 = .ok (.aload_n 0, 1) := by decide +kernel
theorem dX4_readTrial_19 : decode cX4_readTrial 19 = .ok (.getfield 26, 3) := by decide +kernel
theorem dX4_readTrial_22 : decode cX4_readTrial 22 = .ok (.istore_n 1, 1) := by decide +kernel
theorem dX4_readTrial_23 : decode cX4_readTrial 23 = .ok (.aload_n 0, 1) := by decide +kernel
theorem dX4_readTrial_24 : decode cX4_readTrial 24 = .ok (.invokevirtual 43, 3) := by decide +kernel
theorem dX4_readTrial_27 : decode cX4_readTrial 27 = .ok (.ifCond .eq 12, 3) := by decide +kernel
theorem dX4_readTrial_30 : decode cX4_readTrial 30 = .ok (.aload_n 0, 1) := by decide +kernel
theorem dX4_readTrial_31 : decode cX4_readTrial 31 = .ok (.bipush 44, 2) := by decide +kernel
theorem dX4_readTrial_33 : decode cX4_readTrial 33 = .ok (.invokevirtual 29, 3) := by decide +kernel
theorem dX4_readTrial_36 : decode cX4_readTrial 36 = .ok (.ifCond .ne 5, 3) := by decide +kernel
theorem dX4_readTrial_39 : decode cX4_readTrial 39 = .ok (.iconst 0, 1) := by decide +kernel
theorem dX4_readTrial_40 : decode cX4_readTrial 40 = .ok (.ireturn, 1) := by decide +kernel
theorem dX4_readTrial_41 : decode cX4_readTrial 41 = .ok (.aload_n 0, 1) := by decide +kernel
theorem dX4_readTrial_42 : decode cX4_readTrial 42 = .ok (.getfield 26, 3) := by decide +kernel
theorem dX4_readTrial_45 : decode cX4_readTrial 45 = .ok (.istore_n 2, 1) := by decide +kernel
theorem dX4_readTrial_46 : decode cX4_readTrial 46 = .ok (.aload_n 0, 1) := by decide +kernel
theorem dX4_readTrial_47 : decode cX4_readTrial 47 = .ok (.invokevirtual 46, 3) := by decide +kernel
theorem dX4_readTrial_50 : decode cX4_readTrial 50 = .ok (.ifCond .eq 12, 3) := by decide +kernel
theorem dX4_readTrial_53 : decode cX4_readTrial 53 = .ok (.aload_n 0, 1) := by decide +kernel
theorem dX4_readTrial_54 : decode cX4_readTrial 54 = .ok (.bipush 44, 2) := by decide +kernel
theorem dX4_readTrial_56 : decode cX4_readTrial 56 = .ok (.invokevirtual 29, 3) := by decide +kernel
theorem dX4_readTrial_59 : decode cX4_readTrial 59 = .ok (.ifCond .ne 5, 3) := by decide +kernel
theorem dX4_readTrial_62 : decode cX4_readTrial 62 = .ok (.iconst 0, 1) := by decide +kernel
theorem dX4_readTrial_63 : decode cX4_readTrial 63 = .ok (.ireturn, 1) := by decide +kernel
theorem dX4_readTrial_64 : decode cX4_readTrial 64 = .ok (.aload_n 0, 1) := by decide +kernel
theorem dX4_readTrial_65 : decode cX4_readTrial 65 = .ok (.getfield 26, 3) := by decide +kernel
theorem dX4_readTrial_68 : decode cX4_readTrial 68 = .ok (.istore_n 3, 1) := by decide +kernel
theorem dX4_readTrial_69 : decode cX4_readTrial 69 = .ok (.aload_n 0, 1) := by decide +kernel
theorem dX4_readTrial_70 : decode cX4_readTrial 70 = .ok (.invokevirtual 46, 3) := by decide +kernel
theorem dX4_readTrial_73 : decode cX4_readTrial 73 = .ok (.ifCond .ne 5, 3) := by decide +kernel
theorem dX4_readTrial_76 : decode cX4_readTrial 76 = .ok (.iconst 0, 1) := by decide +kernel
theorem dX4_readTrial_77 : decode cX4_readTrial 77 = .ok (.ireturn, 1) := by decide +kernel
theorem dX4_readTrial_78 : decode cX4_readTrial 78 = .ok (.aload_n 0, 1) := by decide +kernel
theorem dX4_readTrial_79 : decode cX4_readTrial 79 = .ok (.getfield 18, 3) := by decide +kernel
theorem dX4_readTrial_82 : decode cX4_readTrial 82 = .ok (.new 49, 3) := by decide +kernel
theorem dX4_readTrial_85 : decode cX4_readTrial 85 = .ok (.dup, 1) := by decide +kernel
theorem dX4_readTrial_86 : decode cX4_readTrial 86 = .ok (.new 51, 3) := by decide +kernel
theorem dX4_readTrial_89 : decode cX4_readTrial 89 = .ok (.dup, 1) := by decide +kernel
theorem dX4_readTrial_90 : decode cX4_readTrial 90 = .ok (.iload_n 1, 1) := by decide +kernel
theorem dX4_readTrial_91 : decode cX4_readTrial 91 = .ok (.i2l, 1) := by decide +kernel
theorem dX4_readTrial_92 : decode cX4_readTrial 92 = .ok (.iload_n 2, 1) := by decide +kernel
theorem dX4_readTrial_93 : decode cX4_readTrial 93 = .ok (.i2l, 1) := by decide +kernel
theorem dX4_readTrial_94 : decode cX4_readTrial 94 = .ok (.lconst 0, 1) := by decide +kernel
theorem dX4_readTrial_95 : decode cX4_readTrial 95 = .ok (.iload_n 3, 1) := by decide +kernel
theorem dX4_readTrial_96 : decode cX4_readTrial 96 = .ok (.i2l, 1) := by decide +kernel
theorem dX4_readTrial_97 : decode cX4_readTrial 97 = .ok (.invokespecial 53, 3) := by decide +kernel
theorem dX4_readTrial_100 : decode cX4_readTrial 100 = .ok (.aload_n 0, 1) := by decide +kernel
theorem dX4_readTrial_101 : decode cX4_readTrial 101 = .ok (.getfield 26, 3) := by decide +kernel
theorem dX4_readTrial_104 : decode cX4_readTrial 104 = .ok (.invokespecial 56, 3) := by decide +kernel
theorem dX4_readTrial_107 : decode cX4_readTrial 107 = .ok (.invokevirtual 59, 3) := by decide +kernel
theorem dX4_readTrial_110 : decode cX4_readTrial 110 = .ok (.pop, 1) := by decide +kernel
theorem dX4_readTrial_111 : decode cX4_readTrial 111 = .ok (.iconst 1, 1) := by decide +kernel
theorem dX4_readTrial_112 : decode cX4_readTrial 112 = .ok (.ireturn, 1) := by decide +kernel
theorem dX4_readSigned_0 : decode cX4_readSigned 0 = .ok (.aload_n 0, 1) := by decide +kernel
theorem dX4_readSigned_1 : decode cX4_readSigned 1 = .ok (.bipush 45, 2) := by decide +kernel
theorem dX4_readSigned_3 : decode cX4_readSigned 3 = .ok (.invokevirtual 29, 3) := by decide +kernel
theorem dX4_readSigned_6 : decode cX4_readSigned 6 = .ok (.istore_n 1, 1) := by decide +kernel
theorem dX4_readSigned_7 : decode cX4_readSigned 7 = .ok (.aload_n 0, 1) := by decide +kernel
theorem dX4_readSigned_8 : decode cX4_readSigned 8 = .ok (.invokevirtual 46, 3) := by decide +kernel
theorem dX4_readSigned_11 : decode cX4_readSigned 11 = .ok (.istore_n 2, 1) := by decide +kernel
theorem dX4_readSigned_12 : decode cX4_readSigned 12 = .ok (.iload_n 1, 1) := by decide +kernel
theorem dX4_readSigned_13 : decode cX4_readSigned 13 = .ok (.ifCond .eq 12, 3) := by decide +kernel
theorem dX4_readSigned_16 : decode cX4_readSigned 16 = .ok (.aload_n 0, 1) := by decide +kernel
theorem dX4_readSigned_17 : decode cX4_readSigned 17 = .ok (.aload_n 0, 1) := by decide +kernel
theorem dX4_readSigned_18 : decode cX4_readSigned 18 = .ok (.getfield 26, 3) := by decide +kernel
theorem dX4_readSigned_21 : decode cX4_readSigned 21 = .ok (.ineg, 1) := by decide +kernel
theorem dX4_readSigned_22 : decode cX4_readSigned 22 = .ok (.putfield 26, 3) := by decide +kernel
theorem dX4_readSigned_25 : decode cX4_readSigned 25 = .ok (.iload_n 2, 1) := by decide +kernel
theorem dX4_readSigned_26 : decode cX4_readSigned 26 = .ok (.ireturn, 1) := by decide +kernel
theorem dX4_readDigits_0 : decode cX4_readDigits 0 = .ok (.aload_n 0, 1) := by decide +kernel
theorem dX4_readDigits_1 : decode cX4_readDigits 1 = .ok (.iconst 0, 1) := by decide +kernel
theorem dX4_readDigits_2 : decode cX4_readDigits 2 = .ok (.putfield 26, 3) := by decide +kernel
theorem dX4_readDigits_5 : decode cX4_readDigits 5 = .ok (.iconst 0, 1) := by decide +kernel
theorem dX4_readDigits_6 : decode cX4_readDigits 6 = .ok (.istore_n 1, 1) := by decide +kernel
theorem dX4_readDigits_7 : decode cX4_readDigits 7 = .ok (.aload_n 0, 1) := by decide +kernel
theorem dX4_readDigits_8 : decode cX4_readDigits 8 = .ok (.invokevirtual 63, 3) := by decide +kernel
theorem dX4_readDigits_11 : decode cX4_readDigits 11 = .ok (.istore_n 2, 1) := by decide +kernel
theorem dX4_readDigits_12 : decode cX4_readDigits 12 = .ok (.iload_n 1, 1) := by decide +kernel
theorem dX4_readDigits_13 : decode cX4_readDigits 13 = .ok (.iconst 5, 1) := by decide +kernel
theorem dX4_readDigits_14 : decode cX4_readDigits 14 = .ok (.if_icmp .ge 42, 3) := by decide +kernel
theorem dX4_readDigits_17 : decode cX4_readDigits 17 = .ok (.iload_n 2, 1) := by decide +kernel
theorem dX4_readDigits_18 : decode cX4_readDigits 18 = .ok (.iconst (-1), 1) := by decide +kernel
theorem dX4_readDigits_19 : decode cX4_readDigits 19 = .ok (.if_icmp .eq 37, 3) := by decide +kernel
theorem dX4_readDigits_22 : decode cX4_readDigits 22 = .ok (.aload_n 0, 1) := by decide +kernel
theorem dX4_readDigits_23 : decode cX4_readDigits 23 = .ok (.bipush 10, 2) := by decide +kernel
theorem dX4_readDigits_25 : decode cX4_readDigits 25 = .ok (.aload_n 0, 1) := by decide +kernel
theorem dX4_readDigits_26 : decode cX4_readDigits 26 = .ok (.getfield 26, 3) := by decide +kernel
theorem dX4_readDigits_29 : decode cX4_readDigits 29 = .ok (.imul, 1) := by decide +kernel
theorem dX4_readDigits_30 : decode cX4_readDigits 30 = .ok (.iload_n 2, 1) := by decide +kernel
theorem dX4_readDigits_31 : decode cX4_readDigits 31 = .ok (.iadd, 1) := by decide +kernel
theorem dX4_readDigits_32 : decode cX4_readDigits 32 = .ok (.putfield 26, 3) := by decide +kernel
theorem dX4_readDigits_35 : decode cX4_readDigits 35 = .ok (.aload_n 0, 1) := by decide +kernel
theorem dX4_readDigits_36 : decode cX4_readDigits 36 = .ok (.dup, 1) := by decide +kernel
theorem dX4_readDigits_37 : decode cX4_readDigits 37 = .ok (.getfield 22, 3) := by decide +kernel
theorem dX4_readDigits_40 : decode cX4_readDigits 40 = .ok (.iconst 1, 1) := by decide +kernel
theorem dX4_readDigits_41 : decode cX4_readDigits 41 = .ok (.iadd, 1) := by decide +kernel
theorem dX4_readDigits_42 : decode cX4_readDigits 42 = .ok (.putfield 22, 3) := by decide +kernel
theorem dX4_readDigits_45 : decode cX4_readDigits 45 = .ok (.iinc 1 1, 3) := by decide +kernel
theorem dX4_readDigits_48 : decode cX4_readDigits 48 = .ok (.aload_n 0, 1) := by decide +kernel
theorem dX4_readDigits_49 : decode cX4_readDigits 49 = .ok (.invokevirtual 63, 3) := by decide +kernel
theorem dX4_readDigits_52 : decode cX4_readDigits 52 = .ok (.istore_n 2, 1) := by decide +kernel
theorem dX4_readDigits_53 : decode cX4_readDigits 53 = .ok (.goto (-41), 3) := by decide +kernel
theorem dX4_readDigits_56 : decode cX4_readDigits 56 = .ok (.iload_n 1, 1) := by decide +kernel
theorem dX4_readDigits_57 : decode cX4_readDigits 57 = .ok (.ifCond .le 7, 3) := by decide +kernel
theorem dX4_readDigits_60 : decode cX4_readDigits 60 = .ok (.iconst 1, 1) := by decide +kernel
theorem dX4_readDigits_61 : decode cX4_readDigits 61 = .ok (.goto 4, 3) := by decide +kernel
theorem dX4_readDigits_64 : decode cX4_readDigits 64 = .ok (.iconst 0, 1) := by decide +kernel
theorem dX4_readDigits_65 : decode cX4_readDigits 65 = .ok (.ireturn, 1) := by decide +kernel
theorem dX4_digitHere_0 : decode cX4_digitHere 0 = .ok (.aload_n 0, 1) := by decide +kernel
theorem dX4_digitHere_1 : decode cX4_digitHere 1 = .ok (.getfield 22, 3) := by decide +kernel
theorem dX4_digitHere_4 : decode cX4_digitHere 4 = .ok (.aload_n 0, 1) := by decide +kernel
theorem dX4_digitHere_5 : decode cX4_digitHere 5 = .ok (.getfield 9, 3) := by decide +kernel
theorem dX4_digitHere_8 : decode cX4_digitHere 8 = .ok (.invokevirtual 37, 3) := by decide +kernel
theorem dX4_digitHere_11 : decode cX4_digitHere 11 = .ok (.if_icmp .lt 5, 3) := by decide +kernel
theorem dX4_digitHere_14 : decode cX4_digitHere 14 = .ok (.iconst (-1), 1) := by decide +kernel
theorem dX4_digitHere_15 : decode cX4_digitHere 15 = .ok (.ireturn, 1) := by decide +kernel
theorem dX4_digitHere_16 : decode cX4_digitHere 16 = .ok (.aload_n 0, 1) := by decide +kernel
theorem dX4_digitHere_17 : decode cX4_digitHere 17 = .ok (.getfield 9, 3) := by decide +kernel
theorem dX4_digitHere_20 : decode cX4_digitHere 20 = .ok (.aload_n 0, 1) := by decide +kernel
theorem dX4_digitHere_21 : decode cX4_digitHere 21 = .ok (.getfield 22, 3) := by decide +kernel
theorem dX4_digitHere_24 : decode cX4_digitHere 24 = .ok (.invokevirtual 66, 3) := by decide +kernel
theorem dX4_digitHere_27 : decode cX4_digitHere 27 = .ok (.bipush 48, 2) := by decide +kernel
theorem dX4_digitHere_29 : decode cX4_digitHere 29 = .ok (.isub, 1) := by decide +kernel
theorem dX4_digitHere_30 : decode cX4_digitHere 30 = .ok (.istore_n 1, 1) := by decide +kernel
theorem dX4_digitHere_31 : decode cX4_digitHere 31 = .ok (.iload_n 1, 1) := by decide +kernel
theorem dX4_digitHere_32 : decode cX4_digitHere 32 = .ok (.ifCond .lt 13, 3) := by decide +kernel
theorem dX4_digitHere_35 : decode cX4_digitHere 35 = .ok (.iload_n 1, 1) := by decide +kernel
theorem dX4_digitHere_36 : decode cX4_digitHere 36 = .ok (.bipush 9, 2) := by decide +kernel
theorem dX4_digitHere_38 : decode cX4_digitHere 38 = .ok (.if_icmp .gt 7, 3) := by decide +kernel
theorem dX4_digitHere_41 : decode cX4_digitHere 41 = .ok (.iload_n 1, 1) := by decide +kernel
theorem dX4_digitHere_42 : decode cX4_digitHere 42 = .ok (.goto 4, 3) := by decide +kernel
theorem dX4_digitHere_45 : decode cX4_digitHere 45 = .ok (.iconst (-1), 1) := by decide +kernel
theorem dX4_digitHere_46 : decode cX4_digitHere 46 = .ok (.ireturn, 1) := by decide +kernel
theorem dX4_skip_0 : decode cX4_skip 0 = .ok (.aload_n 0, 1) := by decide +kernel
theorem dX4_skip_1 : decode cX4_skip 1 = .ok (.getfield 22, 3) := by decide +kernel
theorem dX4_skip_4 : decode cX4_skip 4 = .ok (.aload_n 0, 1) := by decide +kernel
theorem dX4_skip_5 : decode cX4_skip 5 = .ok (.getfield 9, 3) := by decide +kernel
theorem dX4_skip_8 : decode cX4_skip 8 = .ok (.invokevirtual 37, 3) := by decide +kernel
theorem dX4_skip_11 : decode cX4_skip 11 = .ok (.if_icmp .ge 18, 3) := by decide +kernel
theorem dX4_skip_14 : decode cX4_skip 14 = .ok (.aload_n 0, 1) := by decide +kernel
theorem dX4_skip_15 : decode cX4_skip 15 = .ok (.getfield 9, 3) := by decide +kernel
theorem dX4_skip_18 : decode cX4_skip 18 = .ok (.aload_n 0, 1) := by decide +kernel
theorem dX4_skip_19 : decode cX4_skip 19 = .ok (.getfield 22, 3) := by decide +kernel
theorem dX4_skip_22 : decode cX4_skip 22 = .ok (.invokevirtual 66, 3) := by decide +kernel
theorem dX4_skip_25 : decode cX4_skip 25 = .ok (.iload_n 1, 1) := by decide +kernel
theorem dX4_skip_26 : decode cX4_skip 26 = .ok (.if_icmp .eq 5, 3) := by decide +kernel
theorem dX4_skip_29 : decode cX4_skip 29 = .ok (.iconst 0, 1) := by decide +kernel
theorem dX4_skip_30 : decode cX4_skip 30 = .ok (.ireturn, 1) := by decide +kernel
theorem dX4_skip_31 : decode cX4_skip 31 = .ok (.aload_n 0, 1) := by decide +kernel
theorem dX4_skip_32 : decode cX4_skip 32 = .ok (.dup, 1) := by decide +kernel
theorem dX4_skip_33 : decode cX4_skip 33 = .ok (.getfield 22, 3) := by decide +kernel
theorem dX4_skip_36 : decode cX4_skip 36 = .ok (.iconst 1, 1) := by decide +kernel
theorem dX4_skip_37 : decode cX4_skip 37 = .ok (.iadd, 1) := by decide +kernel
theorem dX4_skip_38 : decode cX4_skip 38 = .ok (.putfield 22, 3) := by decide +kernel
theorem dX4_skip_41 : decode cX4_skip 41 = .ok (.iconst 1, 1) := by decide +kernel
theorem dX4_skip_42 : decode cX4_skip 42 = .ok (.ireturn, 1) := by decide +kernel
theorem dX5_init_0 : decode cX5_init 0 = .ok (.aload_n 0, 1) := by decide +kernel
theorem dX5_init_1 : decode cX5_init 1 = .ok (.invokespecial 1, 3) := by decide +kernel
theorem dX5_init_4 : decode cX5_init 4 = .ok (.aload_n 0, 1) := by decide +kernel
theorem dX5_init_5 : decode cX5_init 5 = .ok (.new 7, 3) := by decide +kernel
theorem dX5_init_8 : decode cX5_init 8 = .ok (.dup, 1) := by decide +kernel
theorem dX5_init_9 : decode cX5_init 9 = .ok (.invokespecial 9, 3) := by decide +kernel
theorem dX5_init_12 : decode cX5_init 12 = .ok (.putfield 10, 3) := by decide +kernel
theorem dX5_init_15 : decode cX5_init 15 = .ok (.aload_n 0, 1) := by decide +kernel
theorem dX5_init_16 : decode cX5_init 16 = .ok (.new 7, 3) := by decide +kernel
theorem dX5_init_19 : decode cX5_init 19 = .ok (.dup, 1) := by decide +kernel
theorem dX5_init_20 : decode cX5_init 20 = .ok (.invokespecial 9, 3) := by decide +kernel
theorem dX5_init_23 : decode cX5_init 23 = .ok (.putfield 16, 3) := by decide +kernel
theorem dX5_init_26 : decode cX5_init 26 = .ok (.aload_n 0, 1) := by decide +kernel
theorem dX5_init_27 : decode cX5_init 27 = .ok (.new 7, 3) := by decide +kernel
theorem dX5_init_30 : decode cX5_init 30 = .ok (.dup, 1) := by decide +kernel
theorem dX5_init_31 : decode cX5_init 31 = .ok (.invokespecial 9, 3) := by decide +kernel
theorem dX5_init_34 : decode cX5_init 34 = .ok (.putfield 19, 3) := by decide +kernel
theorem dX5_init_37 : decode cX5_init 37 = .ok (.aload_n 0, 1) := by decide +kernel
theorem dX5_init_38 : decode cX5_init 38 = .ok (.new 22, 3) := by decide +kernel
theorem dX5_init_41 : decode cX5_init 41 = .ok (.dup, 1) := by decide +kernel
theorem dX5_init_42 : decode cX5_init 42 = .ok (.invokespecial 24, 3) := by decide +kernel
theorem dX5_init_45 : decode cX5_init 45 = .ok (.putfield 25, 3) := by decide +kernel
theorem dX5_init_48 : decode cX5_init 48 = .ok (.aload_n 0, 1) := by decide +kernel
theorem dX5_init_49 : decode cX5_init 49 = .ok (.new 29, 3) := by decide +kernel
theorem dX5_init_52 : decode cX5_init 52 = .ok (.dup, 1) := by decide +kernel
theorem dX5_init_53 : decode cX5_init 53 = .ok (.lconst 0, 1) := by decide +kernel
theorem dX5_init_54 : decode cX5_init 54 = .ok (.lconst 0, 1) := by decide +kernel
theorem dX5_init_55 : decode cX5_init 55 = .ok (.lconst 0, 1) := by decide +kernel
theorem dX5_init_56 : decode cX5_init 56 = .ok (.lconst 0, 1) := by decide +kernel
theorem dX5_init_57 : decode cX5_init 57 = .ok (.invokespecial 31, 3) := by decide +kernel
theorem dX5_init_60 : decode cX5_init 60 = .ok (.putfield 34, 3) := by decide +kernel
theorem dX5_init_63 : decode cX5_init 63 = .ok (.aload_n 0, 1) := by decide +kernel
theorem dX5_init_64 : decode cX5_init 64 = .ok (.new 7, 3) := by decide +kernel
theorem dX5_init_67 : decode cX5_init 67 = .ok (.dup, 1) := by decide +kernel
theorem dX5_init_68 : decode cX5_init 68 = .ok (.invokespecial 9, 3) := by decide +kernel
theorem dX5_init_71 : decode cX5_init 71 = .ok (.putfield 38, 3) := by decide +kernel
theorem dX5_init_74 : decode cX5_init 74 = .ok (.aload_n 0, 1) := by decide +kernel
theorem dX5_init_75 : decode cX5_init 75 = .ok (.aload_n 0, 1) := by decide +kernel
theorem dX5_init_76 : decode cX5_init 76 = .ok (.getfield 34, 3) := by decide +kernel
theorem dX5_init_79 : decode cX5_init 79 = .ok (.putfield 41, 3) := by decide +kernel
theorem dX5_init_82 : decode cX5_init 82 = .ok (.aload_n 0, 1) := by decide +kernel
theorem dX5_init_83 : decode cX5_init 83 = .ok (.iconst 0, 1) := by decide +kernel
theorem dX5_init_84 : decode cX5_init 84 = .ok (.putfield 44, 3) := by decide +kernel
theorem dX5_init_87 : decode cX5_init 87 = .ok (.return_, 1) := by decide +kernel
theorem dX5_part_0 : decode cX5_part 0 = .ok (.aload_n 0, 1) := by decide +kernel
theorem dX5_part_1 : decode cX5_part 1 = .ok (.getfield 10, 3) := by decide +kernel
theorem dX5_part_4 : decode cX5_part 4 = .ok (.invokevirtual 48, 3) := by decide +kernel
theorem dX5_part_7 : decode cX5_part 7 = .ok (.bipush 16, 2) := by decide +kernel
theorem dX5_part_9 : decode cX5_part 9 = .ok (.if_icmp .lt 13, 3) := by decide +kernel
theorem dX5_part_12 : decode cX5_part 12 = .ok (.new 52, 3) := by decide +kernel
theorem dX5_part_15 : decode cX5_part 15 = .ok (.dup, 1) := by decide +kernel
theorem dX5_part_16 : decode cX5_part 16 = .ok (.ldc 54, 2) := by decide +kernel
theorem dX5_part_18 : decode cX5_part 18 = .ok (.invokespecial 56, 3) := by decide +kernel
theorem dX5_part_21 : decode cX5_part 21 = .ok (.athrow, 1) := by decide +kernel
theorem dX5_part_22 : decode cX5_part 22 = .ok (.lload_n 1, 1) := by decide +kernel
theorem dX5_part_23 : decode cX5_part 23 = .ok (.invokestatic 59, 3) := by decide +kernel
theorem dX5_part_26 : decode cX5_part 26 = .ok (.lload_n 3, 1) := by decide +kernel
theorem dX5_part_27 : decode cX5_part 27 = .ok (.invokestatic 59, 3) := by decide +kernel
theorem dX5_part_30 : decode cX5_part 30 = .ok (.lload 5, 2) := by decide +kernel
theorem dX5_part_32 : decode cX5_part 32 = .ok (.invokestatic 59, 3) := by decide +kernel
theorem dX5_part_35 : decode cX5_part 35 = .ok (.lload 7, 2) := by decide +kernel
theorem dX5_part_37 : decode cX5_part 37 = .ok (.invokestatic 63, 3) := by decide +kernel
theorem dX5_part_40 : decode cX5_part 40 = .ok (.aload_n 0, 1) := by decide +kernel
theorem dX5_part_41 : decode cX5_part 41 = .ok (.getfield 10, 3) := by decide +kernel
theorem dX5_part_44 : decode cX5_part 44 = .ok (.new 29, 3) := by decide +kernel
theorem dX5_part_47 : decode cX5_part 47 = .ok (.dup, 1) := by decide +kernel
theorem dX5_part_48 : decode cX5_part 48 = .ok (.lload_n 1, 1) := by decide +kernel
theorem dX5_part_49 : decode cX5_part 49 = .ok (.lload_n 3, 1) := by decide +kernel
theorem dX5_part_50 : decode cX5_part 50 = .ok (.lload 5, 2) := by decide +kernel
theorem dX5_part_52 : decode cX5_part 52 = .ok (.lload 7, 2) := by decide +kernel
theorem dX5_part_54 : decode cX5_part 54 = .ok (.invokespecial 31, 3) := by decide +kernel
theorem dX5_part_57 : decode cX5_part 57 = .ok (.invokevirtual 66, 3) := by decide +kernel
theorem dX5_part_60 : decode cX5_part 60 = .ok (.pop, 1) := by decide +kernel
theorem dX5_part_61 : decode cX5_part 61 = .ok (.aload_n 0, 1) := by decide +kernel
theorem dX5_part_62 : decode cX5_part 62 = .ok (.getfield 10, 3) := by decide +kernel
theorem dX5_part_65 : decode cX5_part 65 = .ok (.invokevirtual 48, 3) := by decide +kernel
theorem dX5_part_68 : decode cX5_part 68 = .ok (.iconst 1, 1) := by decide +kernel
theorem dX5_part_69 : decode cX5_part 69 = .ok (.isub, 1) := by decide +kernel
theorem dX5_part_70 : decode cX5_part 70 = .ok (.ireturn, 1) := by decide +kernel
theorem dX5_foot_0 : decode cX5_foot 0 = .ok (.lload_n 1, 1) := by decide +kernel
theorem dX5_foot_1 : decode cX5_foot 1 = .ok (.invokestatic 59, 3) := by decide +kernel
theorem dX5_foot_4 : decode cX5_foot 4 = .ok (.lload_n 3, 1) := by decide +kernel
theorem dX5_foot_5 : decode cX5_foot 5 = .ok (.invokestatic 59, 3) := by decide +kernel
theorem dX5_foot_8 : decode cX5_foot 8 = .ok (.aload_n 0, 1) := by decide +kernel
theorem dX5_foot_9 : decode cX5_foot 9 = .ok (.getfield 16, 3) := by decide +kernel
theorem dX5_foot_12 : decode cX5_foot 12 = .ok (.invokevirtual 48, 3) := by decide +kernel
theorem dX5_foot_15 : decode cX5_foot 15 = .ok (.bipush 12, 2) := by decide +kernel
theorem dX5_foot_17 : decode cX5_foot 17 = .ok (.if_icmp .lt 5, 3) := by decide +kernel
theorem dX5_foot_20 : decode cX5_foot 20 = .ok (.iconst 0, 1) := by decide +kernel
theorem dX5_foot_21 : decode cX5_foot 21 = .ok (.ireturn, 1) := by decide +kernel
theorem dX5_foot_22 : decode cX5_foot 22 = .ok (.new 70, 3) := by decide +kernel
theorem dX5_foot_25 : decode cX5_foot 25 = .ok (.dup, 1) := by decide +kernel
theorem dX5_foot_26 : decode cX5_foot 26 = .ok (.aload_n 0, 1) := by decide +kernel
theorem dX5_foot_27 : decode cX5_foot 27 = .ok (.getfield 16, 3) := by decide +kernel
theorem dX5_foot_30 : decode cX5_foot 30 = .ok (.invokevirtual 48, 3) := by decide +kernel
theorem dX5_foot_33 : decode cX5_foot 33 = .ok (.lload_n 1, 1) := by decide +kernel
theorem dX5_foot_34 : decode cX5_foot 34 = .ok (.lload_n 3, 1) := by decide +kernel
theorem dX5_foot_35 : decode cX5_foot 35 = .ok (.invokespecial 72, 3) := by decide +kernel
theorem dX5_foot_38 : decode cX5_foot 38 = .ok (.astore 5, 2) := by decide +kernel
theorem dX5_foot_40 : decode cX5_foot 40 = .ok (.aload_n 0, 1) := by decide +kernel
theorem dX5_foot_41 : decode cX5_foot 41 = .ok (.getfield 16, 3) := by decide +kernel
theorem dX5_foot_44 : decode cX5_foot 44 = .ok (.aload 5, 2) := by decide +kernel
theorem dX5_foot_46 : decode cX5_foot 46 = .ok (.invokevirtual 66, 3) := by decide +kernel
theorem dX5_foot_49 : decode cX5_foot 49 = .ok (.pop, 1) := by decide +kernel
theorem dX5_foot_50 : decode cX5_foot 50 = .ok (.aload_n 0, 1) := by decide +kernel
theorem dX5_foot_51 : decode cX5_foot 51 = .ok (.aload 5, 2) := by decide +kernel
theorem dX5_foot_53 : decode cX5_foot 53 = .ok (.invokevirtual 75, 3) := by decide +kernel
theorem dX5_foot_56 : decode cX5_foot 56 = .ok (.iconst 1, 1) := by decide +kernel
theorem dX5_foot_57 : decode cX5_foot 57 = .ok (.ireturn, 1) := by decide +kernel
theorem dX5_drawer_0 : decode cX5_drawer 0 = .ok (.iload_n 1, 1) := by decide +kernel
theorem dX5_drawer_1 : decode cX5_drawer 1 = .ok (.ifCond .lt 14, 3) := by decide +kernel
theorem dX5_drawer_4 : decode cX5_drawer 4 = .ok (.iload_n 1, 1) := by decide +kernel
theorem dX5_drawer_5 : decode cX5_drawer 5 = .ok (.aload_n 0, 1) := by decide +kernel
theorem dX5_drawer_6 : decode cX5_drawer 6 = .ok (.getfield 10, 3) := by decide +kernel
theorem dX5_drawer_9 : decode cX5_drawer 9 = .ok (.invokevirtual 48, 3) := by decide +kernel
theorem dX5_drawer_12 : decode cX5_drawer 12 = .ok (.if_icmp .lt 13, 3) := by decide +kernel
theorem dX5_drawer_15 : decode cX5_drawer 15 = .ok (.new 79, 3) := by decide +kernel
theorem dX5_drawer_18 : decode cX5_drawer 18 = .ok (.dup, 1) := by decide +kernel
theorem dX5_drawer_19 : decode cX5_drawer 19 = .ok (.ldc 81, 2) := by decide +kernel
theorem dX5_drawer_21 : decode cX5_drawer 21 = .ok (.invokespecial 83, 3) := by decide +kernel
theorem dX5_drawer_24 : decode cX5_drawer 24 = .ok (.athrow, 1) := by decide +kernel
theorem dX5_drawer_25 : decode cX5_drawer 25 = .ok (.lload_n 2, 1) := by decide +kernel
theorem dX5_drawer_26 : decode cX5_drawer 26 = .ok (.lconst 1, 1) := by decide +kernel
theorem dX5_drawer_27 : decode cX5_drawer 27 = .ok (.ldc2_w 84, 3) := by decide +kernel
theorem dX5_drawer_30 : decode cX5_drawer 30 = .ok (.invokestatic 86, 3) := by decide +kernel
theorem dX5_drawer_33 : decode cX5_drawer 33 = .ok (.ifCond .ne 13, 3) := by decide +kernel
theorem dX5_drawer_36 : decode cX5_drawer 36 = .ok (.new 90, 3) := by decide +kernel
theorem dX5_drawer_39 : decode cX5_drawer 39 = .ok (.dup, 1) := by decide +kernel
theorem dX5_drawer_40 : decode cX5_drawer 40 = .ok (.ldc 92, 2) := by decide +kernel
theorem dX5_drawer_42 : decode cX5_drawer 42 = .ok (.invokespecial 94, 3) := by decide +kernel
theorem dX5_drawer_45 : decode cX5_drawer 45 = .ok (.athrow, 1) := by decide +kernel
theorem dX5_drawer_46 : decode cX5_drawer 46 = .ok (.aload_n 0, 1) := by decide +kernel
theorem dX5_drawer_47 : decode cX5_drawer 47 = .ok (.getfield 10, 3) := by decide +kernel
theorem dX5_drawer_50 : decode cX5_drawer 50 = .ok (.iload_n 1, 1) := by decide +kernel
theorem dX5_drawer_51 : decode cX5_drawer 51 = .ok (.invokevirtual 95, 3) := by decide +kernel
theorem dX5_drawer_54 : decode cX5_drawer 54 = .ok (.checkcast 29, 3) := by decide +kernel
theorem dX5_drawer_57 : decode cX5_drawer 57 = .ok (.astore 4, 2) := by decide +kernel
theorem dX5_drawer_59 : decode cX5_drawer 59 = .ok (.aload_n 0, 1) := by decide +kernel
theorem dX5_drawer_60 : decode cX5_drawer 60 = .ok (.getfield 44, 3) := by decide +kernel
theorem dX5_drawer_63 : decode cX5_drawer 63 = .ok (.bipush 8, 2) := by decide +kernel
theorem dX5_drawer_65 : decode cX5_drawer 65 = .ok (.if_icmp .ge 12, 3) := by decide +kernel
theorem dX5_drawer_68 : decode cX5_drawer 68 = .ok (.aload 4, 2) := by decide +kernel
theorem dX5_drawer_70 : decode cX5_drawer 70 = .ok (.getfield 99, 3) := by decide +kernel
theorem dX5_drawer_73 : decode cX5_drawer 73 = .ok (.iconst (-1), 1) := by decide +kernel
theorem dX5_drawer_74 : decode cX5_drawer 74 = .ok (.if_icmp .eq 5, 3) := by decide +kernel
theorem dX5_drawer_77 : decode cX5_drawer 77 = .ok (.iconst 0, 1) := by decide +kernel
theorem dX5_drawer_78 : decode cX5_drawer 78 = .ok (.ireturn, 1) := by decide +kernel
theorem dX5_drawer_79 : decode cX5_drawer 79 = .ok (.aload 4, 2) := by decide +kernel
theorem dX5_drawer_81 : decode cX5_drawer 81 = .ok (.aload_n 0, 1) := by decide +kernel
theorem dX5_drawer_82 : decode cX5_drawer 82 = .ok (.getfield 44, 3) := by decide +kernel
theorem dX5_drawer_85 : decode cX5_drawer 85 = .ok (.putfield 99, 3) := by decide +kernel
theorem dX5_drawer_88 : decode cX5_drawer 88 = .ok (.aload 4, 2) := by decide +kernel
theorem dX5_drawer_90 : decode cX5_drawer 90 = .ok (.lload_n 2, 1) := by decide +kernel
theorem dX5_drawer_91 : decode cX5_drawer 91 = .ok (.putfield 102, 3) := by decide +kernel
theorem dX5_drawer_94 : decode cX5_drawer 94 = .ok (.aload_n 0, 1) := by decide +kernel
theorem dX5_drawer_95 : decode cX5_drawer 95 = .ok (.dup, 1) := by decide +kernel
theorem dX5_drawer_96 : decode cX5_drawer 96 = .ok (.getfield 44, 3) := by decide +kernel
theorem dX5_drawer_99 : decode cX5_drawer 99 = .ok (.iconst 1, 1) := by decide +kernel
theorem dX5_drawer_100 : decode cX5_drawer 100 = .ok (.iadd, 1) := by decide +kernel
theorem dX5_drawer_101 : decode cX5_drawer 101 = .ok (.putfield 44, 3) := by decide +kernel
theorem dX5_drawer_104 : decode cX5_drawer 104 = .ok (.iconst 1, 1) := by decide +kernel
theorem dX5_drawer_105 : decode cX5_drawer 105 = .ok (.ireturn, 1) := by decide +kernel
theorem dX5_person_0 : decode cX5_person 0 = .ok (.lload_n 1, 1) := by decide +kernel
theorem dX5_person_1 : decode cX5_person 1 = .ok (.invokestatic 59, 3) := by decide +kernel
theorem dX5_person_4 : decode cX5_person 4 = .ok (.lload_n 3, 1) := by decide +kernel
theorem dX5_person_5 : decode cX5_person 5 = .ok (.invokestatic 59, 3) := by decide +kernel
theorem dX5_person_8 : decode cX5_person 8 = .ok (.lload 5, 2) := by decide +kernel
theorem dX5_person_10 : decode cX5_person 10 = .ok (.invokestatic 63, 3) := by decide +kernel
theorem dX5_person_13 : decode cX5_person 13 = .ok (.aload_n 0, 1) := by decide +kernel
theorem dX5_person_14 : decode cX5_person 14 = .ok (.getfield 41, 3) := by decide +kernel
theorem dX5_person_17 : decode cX5_person 17 = .ok (.getfield 106, 3) := by decide +kernel
theorem dX5_person_20 : decode cX5_person 20 = .ok (.lload_n 1, 1) := by decide +kernel
theorem dX5_person_21 : decode cX5_person 21 = .ok (.lcmp, 1) := by decide +kernel
theorem dX5_person_22 : decode cX5_person 22 = .ok (.ifCond .ne 30, 3) := by decide +kernel
theorem dX5_person_25 : decode cX5_person 25 = .ok (.aload_n 0, 1) := by decide +kernel
theorem dX5_person_26 : decode cX5_person 26 = .ok (.getfield 41, 3) := by decide +kernel
theorem dX5_person_29 : decode cX5_person 29 = .ok (.getfield 109, 3) := by decide +kernel
theorem dX5_person_32 : decode cX5_person 32 = .ok (.lload_n 3, 1) := by decide +kernel
theorem dX5_person_33 : decode cX5_person 33 = .ok (.lcmp, 1) := by decide +kernel
theorem dX5_person_34 : decode cX5_person 34 = .ok (.ifCond .ne 18, 3) := by decide +kernel
theorem dX5_person_37 : decode cX5_person 37 = .ok (.aload_n 0, 1) := by decide +kernel
theorem dX5_person_38 : decode cX5_person 38 = .ok (.getfield 41, 3) := by decide +kernel
theorem dX5_person_41 : decode cX5_person 41 = .ok (.getfield 112, 3) := by decide +kernel
theorem dX5_person_44 : decode cX5_person 44 = .ok (.lload 5, 2) := by decide +kernel
theorem dX5_person_46 : decode cX5_person 46 = .ok (.lcmp, 1) := by decide +kernel
theorem dX5_person_47 : decode cX5_person 47 = .ok (.ifCond .ne 5, 3) := by decide +kernel
theorem dX5_person_50 : decode cX5_person 50 = .ok (.iconst 0, 1) := by decide +kernel
theorem dX5_person_51 : decode cX5_person 51 = .ok (.ireturn, 1) := by decide +kernel
theorem dX5_person_52 : decode cX5_person 52 = .ok (.aload_n 0, 1) := by decide +kernel
theorem dX5_person_53 : decode cX5_person 53 = .ok (.new 29, 3) := by decide +kernel
theorem dX5_person_56 : decode cX5_person 56 = .ok (.dup, 1) := by decide +kernel
theorem dX5_person_57 : decode cX5_person 57 = .ok (.lload_n 1, 1) := by decide +kernel
theorem dX5_person_58 : decode cX5_person 58 = .ok (.lload_n 3, 1) := by decide +kernel
theorem dX5_person_59 : decode cX5_person 59 = .ok (.lconst 0, 1) := by decide +kernel
theorem dX5_person_60 : decode cX5_person 60 = .ok (.lload 5, 2) := by decide +kernel
theorem dX5_person_62 : decode cX5_person 62 = .ok (.invokespecial 31, 3) := by decide +kernel
theorem dX5_person_65 : decode cX5_person 65 = .ok (.putfield 41, 3) := by decide +kernel
theorem dX5_person_68 : decode cX5_person 68 = .ok (.iconst 1, 1) := by decide +kernel
theorem dX5_person_69 : decode cX5_person 69 = .ok (.ireturn, 1) := by decide +kernel
theorem dX5_centre_0 : decode cX5_centre 0 = .ok (.iload_n 1, 1) := by decide +kernel
theorem dX5_centre_1 : decode cX5_centre 1 = .ok (.ifCond .lt 8, 3) := by decide +kernel
theorem dX5_centre_4 : decode cX5_centre 4 = .ok (.iload_n 1, 1) := by decide +kernel
theorem dX5_centre_5 : decode cX5_centre 5 = .ok (.iconst 2, 1) := by decide +kernel
theorem dX5_centre_6 : decode cX5_centre 6 = .ok (.if_icmp .le 13, 3) := by decide +kernel
theorem dX5_centre_9 : decode cX5_centre 9 = .ok (.new 79, 3) := by decide +kernel
theorem dX5_centre_12 : decode cX5_centre 12 = .ok (.dup, 1) := by decide +kernel
theorem dX5_centre_13 : decode cX5_centre 13 = .ok (.ldc 115, 2) := by decide +kernel
theorem dX5_centre_15 : decode cX5_centre 15 = .ok (.invokespecial 83, 3) := by decide +kernel
theorem dX5_centre_18 : decode cX5_centre 18 = .ok (.athrow, 1) := by decide +kernel
theorem dX5_centre_19 : decode cX5_centre 19 = .ok (.iload_n 2, 1) := by decide +kernel
theorem dX5_centre_20 : decode cX5_centre 20 = .ok (.ifCond .lt 8, 3) := by decide +kernel
theorem dX5_centre_23 : decode cX5_centre 23 = .ok (.iload_n 2, 1) := by decide +kernel
theorem dX5_centre_24 : decode cX5_centre 24 = .ok (.iconst 1, 1) := by decide +kernel
theorem dX5_centre_25 : decode cX5_centre 25 = .ok (.if_icmp .le 13, 3) := by decide +kernel
theorem dX5_centre_28 : decode cX5_centre 28 = .ok (.new 79, 3) := by decide +kernel
theorem dX5_centre_31 : decode cX5_centre 31 = .ok (.dup, 1) := by decide +kernel
theorem dX5_centre_32 : decode cX5_centre 32 = .ok (.ldc 117, 2) := by decide +kernel
theorem dX5_centre_34 : decode cX5_centre 34 = .ok (.invokespecial 83, 3) := by decide +kernel
theorem dX5_centre_37 : decode cX5_centre 37 = .ok (.athrow, 1) := by decide +kernel
theorem dX5_centre_38 : decode cX5_centre 38 = .ok (.aload_n 0, 1) := by decide +kernel
theorem dX5_centre_39 : decode cX5_centre 39 = .ok (.getfield 41, 3) := by decide +kernel
theorem dX5_centre_42 : decode cX5_centre 42 = .ok (.getfield 112, 3) := by decide +kernel
theorem dX5_centre_45 : decode cX5_centre 45 = .ok (.lstore_n 3, 1) := by decide +kernel
theorem dX5_centre_46 : decode cX5_centre 46 = .ok (.aload_n 0, 1) := by decide +kernel
theorem dX5_centre_47 : decode cX5_centre 47 = .ok (.getfield 41, 3) := by decide +kernel
theorem dX5_centre_50 : decode cX5_centre 50 = .ok (.getfield 112, 3) := by decide +kernel
theorem dX5_centre_53 : decode cX5_centre 53 = .ok (.aload_n 0, 1) := by decide +kernel
theorem dX5_centre_54 : decode cX5_centre 54 = .ok (.getfield 41, 3) := by decide +kernel
theorem dX5_centre_57 : decode cX5_centre 57 = .ok (.iload_n 1, 1) := by decide +kernel
theorem dX5_centre_58 : decode cX5_centre 58 = .ok (.invokevirtual 119, 3) := by decide +kernel
theorem dX5_centre_61 : decode cX5_centre 61 = .ok (.lmul, 1) := by decide +kernel
theorem dX5_centre_62 : decode cX5_centre 62 = .ok (.lstore 5, 2) := by decide +kernel
theorem dX5_centre_64 : decode cX5_centre 64 = .ok (.iconst 0, 1) := by decide +kernel
theorem dX5_centre_65 : decode cX5_centre 65 = .ok (.istore 7, 2) := by decide +kernel
theorem dX5_centre_67 : decode cX5_centre 67 = .ok (.iload 7, 2) := by decide +kernel
theorem dX5_centre_69 : decode cX5_centre 69 = .ok (.aload_n 0, 1) := by decide +kernel
theorem dX5_centre_70 : decode cX5_centre 70 = .ok (.getfield 10, 3) := by decide +kernel
theorem dX5_centre_73 : decode cX5_centre 73 = .ok (.invokevirtual 48, 3) := by decide +kernel
theorem dX5_centre_76 : decode cX5_centre 76 = .ok (.if_icmp .ge 48, 3) := by decide +kernel
theorem dX5_centre_79 : decode cX5_centre 79 = .ok (.aload_n 0, 1) := by decide +kernel
theorem dX5_centre_80 : decode cX5_centre 80 = .ok (.getfield 10, 3) := by decide +kernel
theorem dX5_centre_83 : decode cX5_centre 83 = .ok (.iload 7, 2) := by decide +kernel
theorem dX5_centre_85 : decode cX5_centre 85 = .ok (.invokevirtual 95, 3) := by decide +kernel
theorem dX5_centre_88 : decode cX5_centre 88 = .ok (.checkcast 29, 3) := by decide +kernel
theorem dX5_centre_91 : decode cX5_centre 91 = .ok (.astore 8, 2) := by decide +kernel
theorem dX5_centre_93 : decode cX5_centre 93 = .ok (.lload_n 3, 1) := by decide +kernel
theorem dX5_centre_94 : decode cX5_centre 94 = .ok (.aload 8, 2) := by decide +kernel
theorem dX5_centre_96 : decode cX5_centre 96 = .ok (.getfield 112, 3) := by decide +kernel
theorem dX5_centre_99 : decode cX5_centre 99 = .ok (.ladd, 1) := by decide +kernel
theorem dX5_centre_100 : decode cX5_centre 100 = .ok (.lstore_n 3, 1) := by decide +kernel
theorem dX5_centre_101 : decode cX5_centre 101 = .ok (.lload 5, 2) := by decide +kernel
theorem dX5_centre_103 : decode cX5_centre 103 = .ok (.aload 8, 2) := by decide +kernel
theorem dX5_centre_105 : decode cX5_centre 105 = .ok (.getfield 112, 3) := by decide +kernel
theorem dX5_centre_108 : decode cX5_centre 108 = .ok (.aload 8, 2) := by decide +kernel
theorem dX5_centre_110 : decode cX5_centre 110 = .ok (.iload_n 1, 1) := by decide +kernel
theorem dX5_centre_111 : decode cX5_centre 111 = .ok (.invokevirtual 119, 3) := by decide +kernel
theorem dX5_centre_114 : decode cX5_centre 114 = .ok (.lmul, 1) := by decide +kernel
theorem dX5_centre_115 : decode cX5_centre 115 = .ok (.ladd, 1) := by decide +kernel
theorem dX5_centre_116 : decode cX5_centre 116 = .ok (.lstore 5, 2) := by decide +kernel
theorem dX5_centre_118 : decode cX5_centre 118 = .ok (.iinc 7 1, 3) := by decide +kernel
theorem dX5_centre_121 : decode cX5_centre 121 = .ok (.goto (-54), 3) := by decide +kernel
theorem dX5_centre_124 : decode cX5_centre 124 = .ok (.lload_n 3, 1) := by decide +kernel
theorem dX5_centre_125 : decode cX5_centre 125 = .ok (.lconst 0, 1) := by decide +kernel
theorem dX5_centre_126 : decode cX5_centre 126 = .ok (.lcmp, 1) := by decide +kernel
theorem dX5_centre_127 : decode cX5_centre 127 = .ok (.ifCond .ne 13, 3) := by decide +kernel
theorem dX5_centre_130 : decode cX5_centre 130 = .ok (.new 52, 3) := by decide +kernel
theorem dX5_centre_133 : decode cX5_centre 133 = .ok (.dup, 1) := by decide +kernel
theorem dX5_centre_134 : decode cX5_centre 134 = .ok (.ldc 123, 2) := by decide +kernel
theorem dX5_centre_136 : decode cX5_centre 136 = .ok (.invokespecial 56, 3) := by decide +kernel
theorem dX5_centre_139 : decode cX5_centre 139 = .ok (.athrow, 1) := by decide +kernel
theorem dX5_centre_140 : decode cX5_centre 140 = .ok (.lload_n 3, 1) := by decide +kernel
theorem dX5_centre_141 : decode cX5_centre 141 = .ok (.lload 5, 2) := by decide +kernel
theorem dX5_centre_143 : decode cX5_centre 143 = .ok (.invokestatic 125, 3) := by decide +kernel
theorem dX5_centre_146 : decode cX5_centre 146 = .ok (.invokestatic 131, 3) := by decide +kernel
theorem dX5_centre_149 : decode cX5_centre 149 = .ok (.lstore 7, 2) := by decide +kernel
theorem dX5_centre_151 : decode cX5_centre 151 = .ok (.iload_n 2, 1) := by decide +kernel
theorem dX5_centre_152 : decode cX5_centre 152 = .ok (.ifCond .ne 11, 3) := by decide +kernel
theorem dX5_centre_155 : decode cX5_centre 155 = .ok (.lload 5, 2) := by decide +kernel
theorem dX5_centre_157 : decode cX5_centre 157 = .ok (.lload 7, 2) := by decide +kernel
theorem dX5_centre_159 : decode cX5_centre 159 = .ok (.ldiv, 1) := by decide +kernel
theorem dX5_centre_160 : decode cX5_centre 160 = .ok (.goto 7, 3) := by decide +kernel
theorem dX5_centre_163 : decode cX5_centre 163 = .ok (.lload_n 3, 1) := by decide +kernel
theorem dX5_centre_164 : decode cX5_centre 164 = .ok (.lload 7, 2) := by decide +kernel
theorem dX5_centre_166 : decode cX5_centre 166 = .ok (.ldiv, 1) := by decide +kernel
theorem dX5_centre_167 : decode cX5_centre 167 = .ok (.lreturn, 1) := by decide +kernel
theorem dX5_side_0 : decode cX5_side 0 = .ok (.aload_n 0, 1) := by decide +kernel
theorem dX5_side_1 : decode cX5_side 1 = .ok (.invokevirtual 135, 3) := by decide +kernel
theorem dX5_side_4 : decode cX5_side 4 = .ok (.iload_n 1, 1) := by decide +kernel
theorem dX5_side_5 : decode cX5_side 5 = .ok (.ifCond .ge 13, 3) := by decide +kernel
theorem dX5_side_8 : decode cX5_side 8 = .ok (.new 79, 3) := by decide +kernel
theorem dX5_side_11 : decode cX5_side 11 = .ok (.dup, 1) := by decide +kernel
theorem dX5_side_12 : decode cX5_side 12 = .ok (.ldc 138, 2) := by decide +kernel
theorem dX5_side_14 : decode cX5_side 14 = .ok (.invokespecial 83, 3) := by decide +kernel
theorem dX5_side_17 : decode cX5_side 17 = .ok (.athrow, 1) := by decide +kernel
theorem dX5_side_18 : decode cX5_side 18 = .ok (.iload_n 1, 1) := by decide +kernel
theorem dX5_side_19 : decode cX5_side 19 = .ok (.aload_n 0, 1) := by decide +kernel
theorem dX5_side_20 : decode cX5_side 20 = .ok (.getfield 19, 3) := by decide +kernel
theorem dX5_side_23 : decode cX5_side 23 = .ok (.invokevirtual 48, 3) := by decide +kernel
theorem dX5_side_26 : decode cX5_side 26 = .ok (.if_icmp .ge 23, 3) := by decide +kernel
theorem dX5_side_29 : decode cX5_side 29 = .ok (.aload_n 0, 1) := by decide +kernel
theorem dX5_side_30 : decode cX5_side 30 = .ok (.getfield 19, 3) := by decide +kernel
theorem dX5_side_33 : decode cX5_side 33 = .ok (.iload_n 1, 1) := by decide +kernel
theorem dX5_side_34 : decode cX5_side 34 = .ok (.invokevirtual 95, 3) := by decide +kernel
theorem dX5_side_37 : decode cX5_side 37 = .ok (.checkcast 140, 3) := by decide +kernel
theorem dX5_side_40 : decode cX5_side 40 = .ok (.getfield 142, 3) := by decide +kernel
theorem dX5_side_43 : decode cX5_side 43 = .ok (.getfield 146, 3) := by decide +kernel
theorem dX5_side_46 : decode cX5_side 46 = .ok (.goto 4, 3) := by decide +kernel
theorem dX5_side_49 : decode cX5_side 49 = .ok (.iconst (-1), 1) := by decide +kernel
theorem dX5_side_50 : decode cX5_side 50 = .ok (.ireturn, 1) := by decide +kernel
theorem dX5_tips_0 : decode cX5_tips 0 = .ok (.aload_n 0, 1) := by decide +kernel
theorem dX5_tips_1 : decode cX5_tips 1 = .ok (.invokevirtual 135, 3) := by decide +kernel
theorem dX5_tips_4 : decode cX5_tips 4 = .ok (.iload_n 1, 1) := by decide +kernel
theorem dX5_tips_5 : decode cX5_tips 5 = .ok (.ifCond .lt 11, 3) := by decide +kernel
theorem dX5_tips_8 : decode cX5_tips 8 = .ok (.iload_n 1, 1) := by decide +kernel
theorem dX5_tips_9 : decode cX5_tips 9 = .ok (.aload_n 0, 1) := by decide +kernel
theorem dX5_tips_10 : decode cX5_tips 10 = .ok (.getfield 44, 3) := by decide +kernel
theorem dX5_tips_13 : decode cX5_tips 13 = .ok (.if_icmp .le 13, 3) := by decide +kernel
theorem dX5_tips_16 : decode cX5_tips 16 = .ok (.new 90, 3) := by decide +kernel
theorem dX5_tips_19 : decode cX5_tips 19 = .ok (.dup, 1) := by decide +kernel
theorem dX5_tips_20 : decode cX5_tips 20 = .ok (.ldc 149, 2) := by decide +kernel
theorem dX5_tips_22 : decode cX5_tips 22 = .ok (.invokespecial 94, 3) := by decide +kernel
theorem dX5_tips_25 : decode cX5_tips 25 = .ok (.athrow, 1) := by decide +kernel
theorem dX5_tips_26 : decode cX5_tips 26 = .ok (.aload_n 0, 1) := by decide +kernel
theorem dX5_tips_27 : decode cX5_tips 27 = .ok (.iload_n 1, 1) := by decide +kernel
theorem dX5_tips_28 : decode cX5_tips 28 = .ok (.aload_n 0, 1) := by decide +kernel
theorem dX5_tips_29 : decode cX5_tips 29 = .ok (.getfield 41, 3) := by decide +kernel
theorem dX5_tips_32 : decode cX5_tips 32 = .ok (.invokevirtual 151, 3) := by decide +kernel
theorem dX5_tips_35 : decode cX5_tips 35 = .ok (.ireturn, 1) := by decide +kernel
theorem dX5_moment_0 : decode cX5_moment 0 = .ok (.aload_n 0, 1) := by decide +kernel
theorem dX5_moment_1 : decode cX5_moment 1 = .ok (.invokevirtual 135, 3) := by decide +kernel
theorem dX5_moment_4 : decode cX5_moment 4 = .ok (.iload_n 1, 1) := by decide +kernel
theorem dX5_moment_5 : decode cX5_moment 5 = .ok (.ifCond .lt 14, 3) := by decide +kernel
theorem dX5_moment_8 : decode cX5_moment 8 = .ok (.iload_n 1, 1) := by decide +kernel
theorem dX5_moment_9 : decode cX5_moment 9 = .ok (.aload_n 0, 1) := by decide +kernel
theorem dX5_moment_10 : decode cX5_moment 10 = .ok (.getfield 19, 3) := by decide +kernel
theorem dX5_moment_13 : decode cX5_moment 13 = .ok (.invokevirtual 48, 3) := by decide +kernel
theorem dX5_moment_16 : decode cX5_moment 16 = .ok (.if_icmp .lt 13, 3) := by decide +kernel
theorem dX5_moment_19 : decode cX5_moment 19 = .ok (.new 79, 3) := by decide +kernel
theorem dX5_moment_22 : decode cX5_moment 22 = .ok (.dup, 1) := by decide +kernel
theorem dX5_moment_23 : decode cX5_moment 23 = .ok (.ldc 138, 2) := by decide +kernel
theorem dX5_moment_25 : decode cX5_moment 25 = .ok (.invokespecial 83, 3) := by decide +kernel
theorem dX5_moment_28 : decode cX5_moment 28 = .ok (.athrow, 1) := by decide +kernel
theorem dX5_moment_29 : decode cX5_moment 29 = .ok (.iload_n 2, 1) := by decide +kernel
theorem dX5_moment_30 : decode cX5_moment 30 = .ok (.ifCond .lt 8, 3) := by decide +kernel
theorem dX5_moment_33 : decode cX5_moment 33 = .ok (.iload_n 2, 1) := by decide +kernel
theorem dX5_moment_34 : decode cX5_moment 34 = .ok (.iconst 1, 1) := by decide +kernel
theorem dX5_moment_35 : decode cX5_moment 35 = .ok (.if_icmp .le 13, 3) := by decide +kernel
theorem dX5_moment_38 : decode cX5_moment 38 = .ok (.new 79, 3) := by decide +kernel
theorem dX5_moment_41 : decode cX5_moment 41 = .ok (.dup, 1) := by decide +kernel
theorem dX5_moment_42 : decode cX5_moment 42 = .ok (.ldc 155, 2) := by decide +kernel
theorem dX5_moment_44 : decode cX5_moment 44 = .ok (.invokespecial 83, 3) := by decide +kernel
theorem dX5_moment_47 : decode cX5_moment 47 = .ok (.athrow, 1) := by decide +kernel
theorem dX5_moment_48 : decode cX5_moment 48 = .ok (.aload_n 0, 1) := by decide +kernel
theorem dX5_moment_49 : decode cX5_moment 49 = .ok (.aload_n 0, 1) := by decide +kernel
theorem dX5_moment_50 : decode cX5_moment 50 = .ok (.getfield 19, 3) := by decide +kernel
theorem dX5_moment_53 : decode cX5_moment 53 = .ok (.iload_n 1, 1) := by decide +kernel
theorem dX5_moment_54 : decode cX5_moment 54 = .ok (.invokevirtual 95, 3) := by decide +kernel
theorem dX5_moment_57 : decode cX5_moment 57 = .ok (.checkcast 140, 3) := by decide +kernel
theorem dX5_moment_60 : decode cX5_moment 60 = .ok (.iconst 0, 1) := by decide +kernel
theorem dX5_moment_61 : decode cX5_moment 61 = .ok (.iload_n 2, 1) := by decide +kernel
theorem dX5_moment_62 : decode cX5_moment 62 = .ok (.iconst 1, 1) := by decide +kernel
theorem dX5_moment_63 : decode cX5_moment 63 = .ok (.if_icmp .ne 10, 3) := by decide +kernel
theorem dX5_moment_66 : decode cX5_moment 66 = .ok (.aload_n 0, 1) := by decide +kernel
theorem dX5_moment_67 : decode cX5_moment 67 = .ok (.getfield 41, 3) := by decide +kernel
theorem dX5_moment_70 : decode cX5_moment 70 = .ok (.goto 7, 3) := by decide +kernel
theorem dX5_moment_73 : decode cX5_moment 73 = .ok (.aload_n 0, 1) := by decide +kernel
theorem dX5_moment_74 : decode cX5_moment 74 = .ok (.getfield 34, 3) := by decide +kernel
theorem dX5_moment_77 : decode cX5_moment 77 = .ok (.invokevirtual 157, 3) := by decide +kernel
theorem dX5_moment_80 : decode cX5_moment 80 = .ok (.lreturn, 1) := by decide +kernel
theorem dX5_most_0 : decode cX5_most 0 = .ok (.aload_n 0, 1) := by decide +kernel
theorem dX5_most_1 : decode cX5_most 1 = .ok (.invokevirtual 135, 3) := by decide +kernel
theorem dX5_most_4 : decode cX5_most 4 = .ok (.iconst (-1), 1) := by decide +kernel
theorem dX5_most_5 : decode cX5_most 5 = .ok (.istore_n 1, 1) := by decide +kernel
theorem dX5_most_6 : decode cX5_most 6 = .ok (.iconst 0, 1) := by decide +kernel
theorem dX5_most_7 : decode cX5_most 7 = .ok (.istore_n 2, 1) := by decide +kernel
theorem dX5_most_8 : decode cX5_most 8 = .ok (.iload_n 2, 1) := by decide +kernel
theorem dX5_most_9 : decode cX5_most 9 = .ok (.aload_n 0, 1) := by decide +kernel
theorem dX5_most_10 : decode cX5_most 10 = .ok (.getfield 44, 3) := by decide +kernel
theorem dX5_most_13 : decode cX5_most 13 = .ok (.if_icmp .gt 23, 3) := by decide +kernel
theorem dX5_most_16 : decode cX5_most 16 = .ok (.aload_n 0, 1) := by decide +kernel
theorem dX5_most_17 : decode cX5_most 17 = .ok (.iload_n 2, 1) := by decide +kernel
theorem dX5_most_18 : decode cX5_most 18 = .ok (.aload_n 0, 1) := by decide +kernel
theorem dX5_most_19 : decode cX5_most 19 = .ok (.getfield 41, 3) := by decide +kernel
theorem dX5_most_22 : decode cX5_most 22 = .ok (.invokevirtual 151, 3) := by decide +kernel
theorem dX5_most_25 : decode cX5_most 25 = .ok (.ifCond .ne 11, 3) := by decide +kernel
theorem dX5_most_28 : decode cX5_most 28 = .ok (.iload_n 2, 1) := by decide +kernel
theorem dX5_most_29 : decode cX5_most 29 = .ok (.istore_n 1, 1) := by decide +kernel
theorem dX5_most_30 : decode cX5_most 30 = .ok (.iinc 2 1, 3) := by decide +kernel
theorem dX5_most_33 : decode cX5_most 33 = .ok (.goto (-25), 3) := by decide +kernel
theorem dX5_most_36 : decode cX5_most 36 = .ok (.iload_n 1, 1) := by decide +kernel
theorem dX5_most_37 : decode cX5_most 37 = .ok (.ireturn, 1) := by decide +kernel
theorem dX5_unit_0 : decode cX5_unit 0 = .ok (.iload_n 1, 1) := by decide +kernel
theorem dX5_unit_1 : decode cX5_unit 1 = .ok (.bipush 32, 2) := by decide +kernel
theorem dX5_unit_3 : decode cX5_unit 3 = .ok (.if_icmp .lt 22, 3) := by decide +kernel
theorem dX5_unit_6 : decode cX5_unit 6 = .ok (.iload_n 1, 1) := by decide +kernel
theorem dX5_unit_7 : decode cX5_unit 7 = .ok (.bipush 126, 2) := by decide +kernel
theorem dX5_unit_9 : decode cX5_unit 9 = .ok (.if_icmp .gt 16, 3) := by decide +kernel
theorem dX5_unit_12 : decode cX5_unit 12 = .ok (.aload_n 0, 1) := by decide +kernel
theorem dX5_unit_13 : decode cX5_unit 13 = .ok (.getfield 25, 3) := by decide +kernel
theorem dX5_unit_16 : decode cX5_unit 16 = .ok (.invokevirtual 161, 3) := by decide +kernel
theorem dX5_unit_19 : decode cX5_unit 19 = .ok (.sipush 200, 3) := by decide +kernel
theorem dX5_unit_22 : decode cX5_unit 22 = .ok (.if_icmp .lt 5, 3) := by decide +kernel
theorem dX5_unit_25 : decode cX5_unit 25 = .ok (.iconst 0, 1) := by decide +kernel
theorem dX5_unit_26 : decode cX5_unit 26 = .ok (.ireturn, 1) := by decide +kernel
theorem dX5_unit_27 : decode cX5_unit 27 = .ok (.aload_n 0, 1) := by decide +kernel
theorem dX5_unit_28 : decode cX5_unit 28 = .ok (.getfield 25, 3) := by decide +kernel
theorem dX5_unit_31 : decode cX5_unit 31 = .ok (.iload_n 1, 1) := by decide +kernel
theorem dX5_unit_32 : decode cX5_unit 32 = .ok (.i2c, 1) := by decide +kernel
theorem dX5_unit_33 : decode cX5_unit 33 = .ok (.invokevirtual 164, 3) := by decide +kernel
theorem dX5_unit_36 : decode cX5_unit 36 = .ok (.pop, 1) := by decide +kernel
theorem dX5_unit_37 : decode cX5_unit 37 = .ok (.iconst 1, 1) := by decide +kernel
theorem dX5_unit_38 : decode cX5_unit 38 = .ok (.ireturn, 1) := by decide +kernel
theorem dX5_rules_0 : decode cX5_rules 0 = .ok (.new 168, 3) := by decide +kernel
theorem dX5_rules_3 : decode cX5_rules 3 = .ok (.dup, 1) := by decide +kernel
theorem dX5_rules_4 : decode cX5_rules 4 = .ok (.aload_n 0, 1) := by decide +kernel
theorem dX5_rules_5 : decode cX5_rules 5 = .ok (.getfield 25, 3) := by decide +kernel
theorem dX5_rules_8 : decode cX5_rules 8 = .ok (.invokespecial 170, 3) := by decide +kernel
theorem dX5_rules_11 : decode cX5_rules 11 = .ok (.astore_n 1, 1) := by decide +kernel
theorem dX5_rules_12 : decode cX5_rules 12 = .ok (.aload_n 1, 1) := by decide +kernel
theorem dX5_rules_13 : decode cX5_rules 13 = .ok (.invokevirtual 173, 3) := by decide +kernel
theorem dX5_rules_16 : decode cX5_rules 16 = .ok (.istore_n 2, 1) := by decide +kernel
theorem dX5_rules_17 : decode cX5_rules 17 = .ok (.aload_n 0, 1) := by decide +kernel
theorem dX5_rules_18 : decode cX5_rules 18 = .ok (.getfield 25, 3) := by decide +kernel
theorem dX5_rules_21 : decode cX5_rules 21 = .ok (.iconst 0, 1) := by decide +kernel
theorem dX5_rules_22 : decode cX5_rules 22 = .ok (.invokevirtual 177, 3) := by decide +kernel
theorem dX5_rules_25 : decode cX5_rules 25 = .ok (.iload_n 2, 1) := by decide +kernel
theorem dX5_rules_26 : decode cX5_rules 26 = .ok (.ifCond .ne 10, 3) := by decide +kernel
theorem dX5_rules_29 : decode cX5_rules 29 = .ok (.iconst (-1), 1) := by decide +kernel
theorem dX5_rules_30 : decode cX5_rules 30 = .ok (.aload_n 1, 1) := by decide +kernel
theorem dX5_rules_31 : decode cX5_rules 31 = .ok (.getfield 181, 3) := by decide +kernel
theorem dX5_rules_34 : decode cX5_rules 34 = .ok (.isub, 1) := by decide +kernel
theorem dX5_rules_35 : decode cX5_rules 35 = .ok (.ireturn, 1) := by decide +kernel
theorem dX5_rules_36 : decode cX5_rules 36 = .ok (.aload_n 0, 1) := by decide +kernel
theorem dX5_rules_37 : decode cX5_rules 37 = .ok (.aload_n 1, 1) := by decide +kernel
theorem dX5_rules_38 : decode cX5_rules 38 = .ok (.getfield 184, 3) := by decide +kernel
theorem dX5_rules_41 : decode cX5_rules 41 = .ok (.putfield 38, 3) := by decide +kernel
theorem dX5_rules_44 : decode cX5_rules 44 = .ok (.aload_n 0, 1) := by decide +kernel
theorem dX5_rules_45 : decode cX5_rules 45 = .ok (.getfield 38, 3) := by decide +kernel
theorem dX5_rules_48 : decode cX5_rules 48 = .ok (.invokevirtual 48, 3) := by decide +kernel
theorem dX5_rules_51 : decode cX5_rules 51 = .ok (.ireturn, 1) := by decide +kernel
theorem dX5_test_0 : decode cX5_test 0 = .ok (.iload_n 1, 1) := by decide +kernel
theorem dX5_test_1 : decode cX5_test 1 = .ok (.ifCond .lt 14, 3) := by decide +kernel
theorem dX5_test_4 : decode cX5_test 4 = .ok (.iload_n 1, 1) := by decide +kernel
theorem dX5_test_5 : decode cX5_test 5 = .ok (.aload_n 0, 1) := by decide +kernel
theorem dX5_test_6 : decode cX5_test 6 = .ok (.getfield 38, 3) := by decide +kernel
theorem dX5_test_9 : decode cX5_test 9 = .ok (.invokevirtual 48, 3) := by decide +kernel
theorem dX5_test_12 : decode cX5_test 12 = .ok (.if_icmp .lt 13, 3) := by decide +kernel
theorem dX5_test_15 : decode cX5_test 15 = .ok (.new 79, 3) := by decide +kernel
theorem dX5_test_18 : decode cX5_test 18 = .ok (.dup, 1) := by decide +kernel
theorem dX5_test_19 : decode cX5_test 19 = .ok (.ldc 185, 2) := by decide +kernel
theorem dX5_test_21 : decode cX5_test 21 = .ok (.invokespecial 83, 3) := by decide +kernel
theorem dX5_test_24 : decode cX5_test 24 = .ok (.athrow, 1) := by decide +kernel
theorem dX5_test_25 : decode cX5_test 25 = .ok (.iload_n 2, 1) := by decide +kernel
theorem dX5_test_26 : decode cX5_test 26 = .ok (.ifCond .lt 8, 3) := by decide +kernel
theorem dX5_test_29 : decode cX5_test 29 = .ok (.iload_n 2, 1) := by decide +kernel
theorem dX5_test_30 : decode cX5_test 30 = .ok (.iconst 2, 1) := by decide +kernel
theorem dX5_test_31 : decode cX5_test 31 = .ok (.if_icmp .le 13, 3) := by decide +kernel
theorem dX5_test_34 : decode cX5_test 34 = .ok (.new 90, 3) := by decide +kernel
theorem dX5_test_37 : decode cX5_test 37 = .ok (.dup, 1) := by decide +kernel
theorem dX5_test_38 : decode cX5_test 38 = .ok (.ldc 187, 2) := by decide +kernel
theorem dX5_test_40 : decode cX5_test 40 = .ok (.invokespecial 94, 3) := by decide +kernel
theorem dX5_test_43 : decode cX5_test 43 = .ok (.athrow, 1) := by decide +kernel
theorem dX5_test_44 : decode cX5_test 44 = .ok (.aload_n 0, 1) := by decide +kernel
theorem dX5_test_45 : decode cX5_test 45 = .ok (.getfield 38, 3) := by decide +kernel
theorem dX5_test_48 : decode cX5_test 48 = .ok (.iload_n 1, 1) := by decide +kernel
theorem dX5_test_49 : decode cX5_test 49 = .ok (.invokevirtual 95, 3) := by decide +kernel
theorem dX5_test_52 : decode cX5_test 52 = .ok (.checkcast 189, 3) := by decide +kernel
theorem dX5_test_55 : decode cX5_test 55 = .ok (.astore_n 3, 1) := by decide +kernel
theorem dX5_test_56 : decode cX5_test 56 = .ok (.iload_n 2, 1) := by decide +kernel
theorem dX5_test_57 : decode cX5_test 57 = .ok (.iconst 1, 1) := by decide +kernel
theorem dX5_test_58 : decode cX5_test 58 = .ok (.if_icmp .ne 12, 3) := by decide +kernel
theorem dX5_test_61 : decode cX5_test 61 = .ok (.aload_n 3, 1) := by decide +kernel
theorem dX5_test_62 : decode cX5_test 62 = .ok (.getfield 191, 3) := by decide +kernel
theorem dX5_test_65 : decode cX5_test 65 = .ok (.getfield 112, 3) := by decide +kernel
theorem dX5_test_68 : decode cX5_test 68 = .ok (.l2i, 1) := by decide +kernel
theorem dX5_test_69 : decode cX5_test 69 = .ok (.ireturn, 1) := by decide +kernel
theorem dX5_test_70 : decode cX5_test 70 = .ok (.iload_n 2, 1) := by decide +kernel
theorem dX5_test_71 : decode cX5_test 71 = .ok (.iconst 2, 1) := by decide +kernel
theorem dX5_test_72 : decode cX5_test 72 = .ok (.if_icmp .ne 9, 3) := by decide +kernel
theorem dX5_test_75 : decode cX5_test 75 = .ok (.aload_n 0, 1) := by decide +kernel
theorem dX5_test_76 : decode cX5_test 76 = .ok (.aload_n 3, 1) := by decide +kernel
theorem dX5_test_77 : decode cX5_test 77 = .ok (.invokevirtual 194, 3) := by decide +kernel
theorem dX5_test_80 : decode cX5_test 80 = .ok (.ireturn, 1) := by decide +kernel
theorem dX5_test_81 : decode cX5_test 81 = .ok (.aload_n 0, 1) := by decide +kernel
theorem dX5_test_82 : decode cX5_test 82 = .ok (.invokevirtual 135, 3) := by decide +kernel
theorem dX5_test_85 : decode cX5_test 85 = .ok (.aload_n 0, 1) := by decide +kernel
theorem dX5_test_86 : decode cX5_test 86 = .ok (.aload_n 0, 1) := by decide +kernel
theorem dX5_test_87 : decode cX5_test 87 = .ok (.aload_n 3, 1) := by decide +kernel
theorem dX5_test_88 : decode cX5_test 88 = .ok (.invokevirtual 194, 3) := by decide +kernel
theorem dX5_test_91 : decode cX5_test 91 = .ok (.aload_n 3, 1) := by decide +kernel
theorem dX5_test_92 : decode cX5_test 92 = .ok (.getfield 191, 3) := by decide +kernel
theorem dX5_test_95 : decode cX5_test 95 = .ok (.invokevirtual 151, 3) := by decide +kernel
theorem dX5_test_98 : decode cX5_test 98 = .ok (.ireturn, 1) := by decide +kernel
theorem dX5_anchor_0 : decode cX5_anchor 0 = .ok (.aload_n 0, 1) := by decide +kernel
theorem dX5_anchor_1 : decode cX5_anchor 1 = .ok (.invokevirtual 135, 3) := by decide +kernel
theorem dX5_anchor_4 : decode cX5_anchor 4 = .ok (.iconst 0, 1) := by decide +kernel
theorem dX5_anchor_5 : decode cX5_anchor 5 = .ok (.istore_n 1, 1) := by decide +kernel
theorem dX5_anchor_6 : decode cX5_anchor 6 = .ok (.iload_n 1, 1) := by decide +kernel
theorem dX5_anchor_7 : decode cX5_anchor 7 = .ok (.aload_n 0, 1) := by decide +kernel
theorem dX5_anchor_8 : decode cX5_anchor 8 = .ok (.getfield 38, 3) := by decide +kernel
theorem dX5_anchor_11 : decode cX5_anchor 11 = .ok (.invokevirtual 48, 3) := by decide +kernel
theorem dX5_anchor_14 : decode cX5_anchor 14 = .ok (.if_icmp .ge 39, 3) := by decide +kernel
theorem dX5_anchor_17 : decode cX5_anchor 17 = .ok (.aload_n 0, 1) := by decide +kernel
theorem dX5_anchor_18 : decode cX5_anchor 18 = .ok (.getfield 38, 3) := by decide +kernel
theorem dX5_anchor_21 : decode cX5_anchor 21 = .ok (.iload_n 1, 1) := by decide +kernel
theorem dX5_anchor_22 : decode cX5_anchor 22 = .ok (.invokevirtual 95, 3) := by decide +kernel
theorem dX5_anchor_25 : decode cX5_anchor 25 = .ok (.checkcast 189, 3) := by decide +kernel
theorem dX5_anchor_28 : decode cX5_anchor 28 = .ok (.astore_n 2, 1) := by decide +kernel
theorem dX5_anchor_29 : decode cX5_anchor 29 = .ok (.aload_n 0, 1) := by decide +kernel
theorem dX5_anchor_30 : decode cX5_anchor 30 = .ok (.aload_n 0, 1) := by decide +kernel
theorem dX5_anchor_31 : decode cX5_anchor 31 = .ok (.aload_n 2, 1) := by decide +kernel
theorem dX5_anchor_32 : decode cX5_anchor 32 = .ok (.invokevirtual 194, 3) := by decide +kernel
theorem dX5_anchor_35 : decode cX5_anchor 35 = .ok (.aload_n 2, 1) := by decide +kernel
theorem dX5_anchor_36 : decode cX5_anchor 36 = .ok (.getfield 191, 3) := by decide +kernel
theorem dX5_anchor_39 : decode cX5_anchor 39 = .ok (.invokevirtual 151, 3) := by decide +kernel
theorem dX5_anchor_42 : decode cX5_anchor 42 = .ok (.ifCond .eq 5, 3) := by decide +kernel
theorem dX5_anchor_45 : decode cX5_anchor 45 = .ok (.iconst 1, 1) := by decide +kernel
theorem dX5_anchor_46 : decode cX5_anchor 46 = .ok (.ireturn, 1) := by decide +kernel
theorem dX5_anchor_47 : decode cX5_anchor 47 = .ok (.iinc 1 1, 3) := by decide +kernel
theorem dX5_anchor_50 : decode cX5_anchor 50 = .ok (.goto (-44), 3) := by decide +kernel
theorem dX5_anchor_53 : decode cX5_anchor 53 = .ok (.iconst 0, 1) := by decide +kernel
theorem dX5_anchor_54 : decode cX5_anchor 54 = .ok (.ireturn, 1) := by decide +kernel
theorem dX5_wobble_0 : decode cX5_wobble 0 = .ok (.aload_n 0, 1) := by decide +kernel
theorem dX5_wobble_1 : decode cX5_wobble 1 = .ok (.getfield 16, 3) := by decide +kernel
theorem dX5_wobble_4 : decode cX5_wobble 4 = .ok (.invokevirtual 48, 3) := by decide +kernel
theorem dX5_wobble_7 : decode cX5_wobble 7 = .ok (.iconst 4, 1) := by decide +kernel
theorem dX5_wobble_8 : decode cX5_wobble 8 = .ok (.if_icmp .ge 13, 3) := by decide +kernel
theorem dX5_wobble_11 : decode cX5_wobble 11 = .ok (.new 52, 3) := by decide +kernel
theorem dX5_wobble_14 : decode cX5_wobble 14 = .ok (.dup, 1) := by decide +kernel
theorem dX5_wobble_15 : decode cX5_wobble 15 = .ok (.ldc 198, 2) := by decide +kernel
theorem dX5_wobble_17 : decode cX5_wobble 17 = .ok (.invokespecial 56, 3) := by decide +kernel
theorem dX5_wobble_20 : decode cX5_wobble 20 = .ok (.athrow, 1) := by decide +kernel
theorem dX5_wobble_21 : decode cX5_wobble 21 = .ok (.aload_n 0, 1) := by decide +kernel
theorem dX5_wobble_22 : decode cX5_wobble 22 = .ok (.getfield 16, 3) := by decide +kernel
theorem dX5_wobble_25 : decode cX5_wobble 25 = .ok (.iconst 0, 1) := by decide +kernel
theorem dX5_wobble_26 : decode cX5_wobble 26 = .ok (.invokevirtual 95, 3) := by decide +kernel
theorem dX5_wobble_29 : decode cX5_wobble 29 = .ok (.checkcast 70, 3) := by decide +kernel
theorem dX5_wobble_32 : decode cX5_wobble 32 = .ok (.astore 9, 2) := by decide +kernel
theorem dX5_wobble_34 : decode cX5_wobble 34 = .ok (.aload_n 0, 1) := by decide +kernel
theorem dX5_wobble_35 : decode cX5_wobble 35 = .ok (.getfield 16, 3) := by decide +kernel
theorem dX5_wobble_38 : decode cX5_wobble 38 = .ok (.iconst 1, 1) := by decide +kernel
theorem dX5_wobble_39 : decode cX5_wobble 39 = .ok (.invokevirtual 95, 3) := by decide +kernel
theorem dX5_wobble_42 : decode cX5_wobble 42 = .ok (.checkcast 70, 3) := by decide +kernel
theorem dX5_wobble_45 : decode cX5_wobble 45 = .ok (.astore 10, 2) := by decide +kernel
theorem dX5_wobble_47 : decode cX5_wobble 47 = .ok (.aload_n 0, 1) := by decide +kernel
theorem dX5_wobble_48 : decode cX5_wobble 48 = .ok (.getfield 16, 3) := by decide +kernel
theorem dX5_wobble_51 : decode cX5_wobble 51 = .ok (.iconst 2, 1) := by decide +kernel
theorem dX5_wobble_52 : decode cX5_wobble 52 = .ok (.invokevirtual 95, 3) := by decide +kernel
theorem dX5_wobble_55 : decode cX5_wobble 55 = .ok (.checkcast 70, 3) := by decide +kernel
theorem dX5_wobble_58 : decode cX5_wobble 58 = .ok (.astore 11, 2) := by decide +kernel
theorem dX5_wobble_60 : decode cX5_wobble 60 = .ok (.aload_n 0, 1) := by decide +kernel
theorem dX5_wobble_61 : decode cX5_wobble 61 = .ok (.getfield 16, 3) := by decide +kernel
theorem dX5_wobble_64 : decode cX5_wobble 64 = .ok (.iconst 3, 1) := by decide +kernel
theorem dX5_wobble_65 : decode cX5_wobble 65 = .ok (.invokevirtual 95, 3) := by decide +kernel
theorem dX5_wobble_68 : decode cX5_wobble 68 = .ok (.checkcast 70, 3) := by decide +kernel
theorem dX5_wobble_71 : decode cX5_wobble 71 = .ok (.astore 12, 2) := by decide +kernel
theorem dX5_wobble_73 : decode cX5_wobble 73 = .ok (.aload 9, 2) := by decide +kernel
theorem dX5_wobble_75 : decode cX5_wobble 75 = .ok (.aload 10, 2) := by decide +kernel
theorem dX5_wobble_77 : decode cX5_wobble 77 = .ok (.aload 11, 2) := by decide +kernel
theorem dX5_wobble_79 : decode cX5_wobble 79 = .ok (.invokevirtual 200, 3) := by decide +kernel
theorem dX5_wobble_82 : decode cX5_wobble 82 = .ok (.lstore 13, 2) := by decide +kernel
theorem dX5_wobble_84 : decode cX5_wobble 84 = .ok (.lload 13, 2) := by decide +kernel
theorem dX5_wobble_86 : decode cX5_wobble 86 = .ok (.lconst 0, 1) := by decide +kernel
theorem dX5_wobble_87 : decode cX5_wobble 87 = .ok (.lcmp, 1) := by decide +kernel
theorem dX5_wobble_88 : decode cX5_wobble 88 = .ok (.ifCond .ne 13, 3) := by decide +kernel
theorem dX5_wobble_91 : decode cX5_wobble 91 = .ok (.new 52, 3) := by decide +kernel
theorem dX5_wobble_94 : decode cX5_wobble 94 = .ok (.dup, 1) := by decide +kernel
theorem dX5_wobble_95 : decode cX5_wobble 95 = .ok (.ldc 204, 2) := by decide +kernel
theorem dX5_wobble_97 : decode cX5_wobble 97 = .ok (.invokespecial 56, 3) := by decide +kernel
theorem dX5_wobble_100 : decode cX5_wobble 100 = .ok (.athrow, 1) := by decide +kernel
theorem dX5_wobble_101 : decode cX5_wobble 101 = .ok (.lload_n 1, 1) := by decide +kernel
theorem dX5_wobble_102 : decode cX5_wobble 102 = .ok (.invokestatic 206, 3) := by decide +kernel
theorem dX5_wobble_105 : decode cX5_wobble 105 = .ok (.lload_n 3, 1) := by decide +kernel
theorem dX5_wobble_106 : decode cX5_wobble 106 = .ok (.invokestatic 206, 3) := by decide +kernel
theorem dX5_wobble_109 : decode cX5_wobble 109 = .ok (.lload 5, 2) := by decide +kernel
theorem dX5_wobble_111 : decode cX5_wobble 111 = .ok (.invokestatic 206, 3) := by decide +kernel
theorem dX5_wobble_114 : decode cX5_wobble 114 = .ok (.lload 7, 2) := by decide +kernel
theorem dX5_wobble_116 : decode cX5_wobble 116 = .ok (.invokestatic 206, 3) := by decide +kernel
theorem dX5_wobble_119 : decode cX5_wobble 119 = .ok (.lload_n 3, 1) := by decide +kernel
theorem dX5_wobble_120 : decode cX5_wobble 120 = .ok (.lload_n 1, 1) := by decide +kernel
theorem dX5_wobble_121 : decode cX5_wobble 121 = .ok (.lsub, 1) := by decide +kernel
theorem dX5_wobble_122 : decode cX5_wobble 122 = .ok (.aload 9, 2) := by decide +kernel
theorem dX5_wobble_124 : decode cX5_wobble 124 = .ok (.aload 12, 2) := by decide +kernel
theorem dX5_wobble_126 : decode cX5_wobble 126 = .ok (.aload 11, 2) := by decide +kernel
theorem dX5_wobble_128 : decode cX5_wobble 128 = .ok (.invokevirtual 200, 3) := by decide +kernel
theorem dX5_wobble_131 : decode cX5_wobble 131 = .ok (.lmul, 1) := by decide +kernel
theorem dX5_wobble_132 : decode cX5_wobble 132 = .ok (.lload 5, 2) := by decide +kernel
theorem dX5_wobble_134 : decode cX5_wobble 134 = .ok (.lload_n 1, 1) := by decide +kernel
theorem dX5_wobble_135 : decode cX5_wobble 135 = .ok (.lsub, 1) := by decide +kernel
theorem dX5_wobble_136 : decode cX5_wobble 136 = .ok (.aload 9, 2) := by decide +kernel
theorem dX5_wobble_138 : decode cX5_wobble 138 = .ok (.aload 10, 2) := by decide +kernel
theorem dX5_wobble_140 : decode cX5_wobble 140 = .ok (.aload 12, 2) := by decide +kernel
theorem dX5_wobble_142 : decode cX5_wobble 142 = .ok (.invokevirtual 200, 3) := by decide +kernel
theorem dX5_wobble_145 : decode cX5_wobble 145 = .ok (.lmul, 1) := by decide +kernel
theorem dX5_wobble_146 : decode cX5_wobble 146 = .ok (.ladd, 1) := by decide +kernel
theorem dX5_wobble_147 : decode cX5_wobble 147 = .ok (.lstore 15, 2) := by decide +kernel
theorem dX5_wobble_149 : decode cX5_wobble 149 = .ok (.lload 7, 2) := by decide +kernel
theorem dX5_wobble_151 : decode cX5_wobble 151 = .ok (.lload_n 1, 1) := by decide +kernel
theorem dX5_wobble_152 : decode cX5_wobble 152 = .ok (.lsub, 1) := by decide +kernel
theorem dX5_wobble_153 : decode cX5_wobble 153 = .ok (.l2d, 1) := by decide +kernel
theorem dX5_wobble_154 : decode cX5_wobble 154 = .ok (.lload 15, 2) := by decide +kernel
theorem dX5_wobble_156 : decode cX5_wobble 156 = .ok (.l2d, 1) := by decide +kernel
theorem dX5_wobble_157 : decode cX5_wobble 157 = .ok (.lload 13, 2) := by decide +kernel
theorem dX5_wobble_159 : decode cX5_wobble 159 = .ok (.l2d, 1) := by decide +kernel
theorem dX5_wobble_160 : decode cX5_wobble 160 = .ok (.ddiv, 1) := by decide +kernel
theorem dX5_wobble_161 : decode cX5_wobble 161 = .ok (.dsub, 1) := by decide +kernel
theorem dX5_wobble_162 : decode cX5_wobble 162 = .ok (.dstore 17, 2) := by decide +kernel
theorem dX5_wobble_164 : decode cX5_wobble 164 = .ok (.dload 17, 2) := by decide +kernel
theorem dX5_wobble_166 : decode cX5_wobble 166 = .ok (.dconst 0, 1) := by decide +kernel
theorem dX5_wobble_167 : decode cX5_wobble 167 = .ok (.dcmp .g, 1) := by decide +kernel
theorem dX5_wobble_168 : decode cX5_wobble 168 = .ok (.ifCond .ge 9, 3) := by decide +kernel
theorem dX5_wobble_171 : decode cX5_wobble 171 = .ok (.dload 17, 2) := by decide +kernel
theorem dX5_wobble_173 : decode cX5_wobble 173 = .ok (.dneg, 1) := by decide +kernel
theorem dX5_wobble_174 : decode cX5_wobble 174 = .ok (.goto 5, 3) := by decide +kernel
theorem dX5_wobble_177 : decode cX5_wobble 177 = .ok (.dload 17, 2) := by decide +kernel
theorem dX5_wobble_179 : decode cX5_wobble 179 = .ok (.dreturn, 1) := by decide +kernel
theorem dX5_bend_0 : decode cX5_bend 0 = .ok (.dload 7, 2) := by decide +kernel
theorem dX5_bend_2 : decode cX5_bend 2 = .ok (.dconst 0, 1) := by decide +kernel
theorem dX5_bend_3 : decode cX5_bend 3 = .ok (.ldc2_w 209, 3) := by decide +kernel
theorem dX5_bend_6 : decode cX5_bend 6 = .ok (.invokestatic 211, 3) := by decide +kernel
theorem dX5_bend_9 : decode cX5_bend 9 = .ok (.ifCond .eq 14, 3) := by decide +kernel
theorem dX5_bend_12 : decode cX5_bend 12 = .ok (.dload_n 1, 1) := by decide +kernel
theorem dX5_bend_13 : decode cX5_bend 13 = .ok (.dconst 0, 1) := by decide +kernel
theorem dX5_bend_14 : decode cX5_bend 14 = .ok (.ldc2_w 209, 3) := by decide +kernel
theorem dX5_bend_17 : decode cX5_bend 17 = .ok (.invokestatic 211, 3) := by decide +kernel
theorem dX5_bend_20 : decode cX5_bend 20 = .ok (.ifCond .ne 13, 3) := by decide +kernel
theorem dX5_bend_23 : decode cX5_bend 23 = .ok (.new 90, 3) := by decide +kernel
theorem dX5_bend_26 : decode cX5_bend 26 = .ok (.dup, 1) := by decide +kernel
theorem dX5_bend_27 : decode cX5_bend 27 = .ok (.ldc 215, 2) := by decide +kernel
theorem dX5_bend_29 : decode cX5_bend 29 = .ok (.invokespecial 94, 3) := by decide +kernel
theorem dX5_bend_32 : decode cX5_bend 32 = .ok (.athrow, 1) := by decide +kernel
theorem dX5_bend_33 : decode cX5_bend 33 = .ok (.dload_n 3, 1) := by decide +kernel
theorem dX5_bend_34 : decode cX5_bend 34 = .ok (.ldc2_w 217, 3) := by decide +kernel
theorem dX5_bend_37 : decode cX5_bend 37 = .ok (.ldc2_w 219, 3) := by decide +kernel
theorem dX5_bend_40 : decode cX5_bend 40 = .ok (.invokestatic 211, 3) := by decide +kernel
theorem dX5_bend_43 : decode cX5_bend 43 = .ok (.ifCond .eq 17, 3) := by decide +kernel
theorem dX5_bend_46 : decode cX5_bend 46 = .ok (.dload 5, 2) := by decide +kernel
theorem dX5_bend_48 : decode cX5_bend 48 = .ok (.ldc2_w 217, 3) := by decide +kernel
theorem dX5_bend_51 : decode cX5_bend 51 = .ok (.ldc2_w 219, 3) := by decide +kernel
theorem dX5_bend_54 : decode cX5_bend 54 = .ok (.invokestatic 211, 3) := by decide +kernel
theorem dX5_bend_57 : decode cX5_bend 57 = .ok (.ifCond .ne 13, 3) := by decide +kernel
theorem dX5_bend_60 : decode cX5_bend 60 = .ok (.new 90, 3) := by decide +kernel
theorem dX5_bend_63 : decode cX5_bend 63 = .ok (.dup, 1) := by decide +kernel
theorem dX5_bend_64 : decode cX5_bend 64 = .ok (.ldc 221, 2) := by decide +kernel
theorem dX5_bend_66 : decode cX5_bend 66 = .ok (.invokespecial 94, 3) := by decide +kernel
theorem dX5_bend_69 : decode cX5_bend 69 = .ok (.athrow, 1) := by decide +kernel
theorem dX5_bend_70 : decode cX5_bend 70 = .ok (.dload_n 3, 1) := by decide +kernel
theorem dX5_bend_71 : decode cX5_bend 71 = .ok (.dload 5, 2) := by decide +kernel
theorem dX5_bend_73 : decode cX5_bend 73 = .ok (.dmul, 1) := by decide +kernel
theorem dX5_bend_74 : decode cX5_bend 74 = .ok (.dload 5, 2) := by decide +kernel
theorem dX5_bend_76 : decode cX5_bend 76 = .ok (.dmul, 1) := by decide +kernel
theorem dX5_bend_77 : decode cX5_bend 77 = .ok (.dload 5, 2) := by decide +kernel
theorem dX5_bend_79 : decode cX5_bend 79 = .ok (.dmul, 1) := by decide +kernel
theorem dX5_bend_80 : decode cX5_bend 80 = .ok (.dstore 9, 2) := by decide +kernel
theorem dX5_bend_82 : decode cX5_bend 82 = .ok (.ldc2_w 223, 3) := by decide +kernel
theorem dX5_bend_85 : decode cX5_bend 85 = .ok (.dload 7, 2) := by decide +kernel
theorem dX5_bend_87 : decode cX5_bend 87 = .ok (.dmul, 1) := by decide +kernel
theorem dX5_bend_88 : decode cX5_bend 88 = .ok (.dload_n 1, 1) := by decide +kernel
theorem dX5_bend_89 : decode cX5_bend 89 = .ok (.dmul, 1) := by decide +kernel
theorem dX5_bend_90 : decode cX5_bend 90 = .ok (.dload_n 1, 1) := by decide +kernel
theorem dX5_bend_91 : decode cX5_bend 91 = .ok (.dmul, 1) := by decide +kernel
theorem dX5_bend_92 : decode cX5_bend 92 = .ok (.dload_n 1, 1) := by decide +kernel
theorem dX5_bend_93 : decode cX5_bend 93 = .ok (.dmul, 1) := by decide +kernel
theorem dX5_bend_94 : decode cX5_bend 94 = .ok (.dload 9, 2) := by decide +kernel
theorem dX5_bend_96 : decode cX5_bend 96 = .ok (.ddiv, 1) := by decide +kernel
theorem dX5_bend_97 : decode cX5_bend 97 = .ok (.dreturn, 1) := by decide +kernel
theorem dX5_creep_0 : decode cX5_creep 0 = .ok (.iload_n 1, 1) := by decide +kernel
theorem dX5_creep_1 : decode cX5_creep 1 = .ok (.ifCond .lt 10, 3) := by decide +kernel
theorem dX5_creep_4 : decode cX5_creep 4 = .ok (.iload_n 1, 1) := by decide +kernel
theorem dX5_creep_5 : decode cX5_creep 5 = .ok (.sipush 1000, 3) := by decide +kernel
theorem dX5_creep_8 : decode cX5_creep 8 = .ok (.if_icmp .le 13, 3) := by decide +kernel
theorem dX5_creep_11 : decode cX5_creep 11 = .ok (.new 90, 3) := by decide +kernel
theorem dX5_creep_14 : decode cX5_creep 14 = .ok (.dup, 1) := by decide +kernel
theorem dX5_creep_15 : decode cX5_creep 15 = .ok (.ldc 225, 2) := by decide +kernel
theorem dX5_creep_17 : decode cX5_creep 17 = .ok (.invokespecial 94, 3) := by decide +kernel
theorem dX5_creep_20 : decode cX5_creep 20 = .ok (.athrow, 1) := by decide +kernel
theorem dX5_creep_21 : decode cX5_creep 21 = .ok (.dconst 1, 1) := by decide +kernel
theorem dX5_creep_22 : decode cX5_creep 22 = .ok (.ldc2_w 227, 3) := by decide +kernel
theorem dX5_creep_25 : decode cX5_creep 25 = .ok (.iload_n 1, 1) := by decide +kernel
theorem dX5_creep_26 : decode cX5_creep 26 = .ok (.i2d, 1) := by decide +kernel
theorem dX5_creep_27 : decode cX5_creep 27 = .ok (.dmul, 1) := by decide +kernel
theorem dX5_creep_28 : decode cX5_creep 28 = .ok (.iload_n 1, 1) := by decide +kernel
theorem dX5_creep_29 : decode cX5_creep 29 = .ok (.iconst 2, 1) := by decide +kernel
theorem dX5_creep_30 : decode cX5_creep 30 = .ok (.iadd, 1) := by decide +kernel
theorem dX5_creep_31 : decode cX5_creep 31 = .ok (.i2d, 1) := by decide +kernel
theorem dX5_creep_32 : decode cX5_creep 32 = .ok (.ddiv, 1) := by decide +kernel
theorem dX5_creep_33 : decode cX5_creep 33 = .ok (.dadd, 1) := by decide +kernel
theorem dX5_creep_34 : decode cX5_creep 34 = .ok (.dreturn, 1) := by decide +kernel
theorem dX5_gap_0 : decode cX5_gap 0 = .ok (.lload_n 1, 1) := by decide +kernel
theorem dX5_gap_1 : decode cX5_gap 1 = .ok (.ldc2_w 229, 3) := by decide +kernel
theorem dX5_gap_4 : decode cX5_gap 4 = .ok (.lcmp, 1) := by decide +kernel
theorem dX5_gap_5 : decode cX5_gap 5 = .ok (.ifCond .le 13, 3) := by decide +kernel
theorem dX5_gap_8 : decode cX5_gap 8 = .ok (.lload_n 1, 1) := by decide +kernel
theorem dX5_gap_9 : decode cX5_gap 9 = .ok (.ldc2_w 231, 3) := by decide +kernel
theorem dX5_gap_12 : decode cX5_gap 12 = .ok (.lcmp, 1) := by decide +kernel
theorem dX5_gap_13 : decode cX5_gap 13 = .ok (.ifCond .ge 5, 3) := by decide +kernel
theorem dX5_gap_16 : decode cX5_gap 16 = .ok (.iconst 1, 1) := by decide +kernel
theorem dX5_gap_17 : decode cX5_gap 17 = .ok (.ireturn, 1) := by decide +kernel
theorem dX5_gap_18 : decode cX5_gap 18 = .ok (.lload_n 1, 1) := by decide +kernel
theorem dX5_gap_19 : decode cX5_gap 19 = .ok (.ldc2_w 233, 3) := by decide +kernel
theorem dX5_gap_22 : decode cX5_gap 22 = .ok (.lcmp, 1) := by decide +kernel
theorem dX5_gap_23 : decode cX5_gap 23 = .ok (.ifCond .le 15, 3) := by decide +kernel
theorem dX5_gap_26 : decode cX5_gap 26 = .ok (.lload_n 1, 1) := by decide +kernel
theorem dX5_gap_27 : decode cX5_gap 27 = .ok (.ldc2_w 235, 3) := by decide +kernel
theorem dX5_gap_30 : decode cX5_gap 30 = .ok (.lcmp, 1) := by decide +kernel
theorem dX5_gap_31 : decode cX5_gap 31 = .ok (.ifCond .ge 7, 3) := by decide +kernel
theorem dX5_gap_34 : decode cX5_gap 34 = .ok (.iconst 2, 1) := by decide +kernel
theorem dX5_gap_35 : decode cX5_gap 35 = .ok (.goto 4, 3) := by decide +kernel
theorem dX5_gap_38 : decode cX5_gap 38 = .ok (.iconst 0, 1) := by decide +kernel
theorem dX5_gap_39 : decode cX5_gap 39 = .ok (.ireturn, 1) := by decide +kernel
theorem dX5_isWithin_0 : decode cX5_isWithin 0 = .ok (.lload_n 0, 1) := by decide +kernel
theorem dX5_isWithin_1 : decode cX5_isWithin 1 = .ok (.lload_n 2, 1) := by decide +kernel
theorem dX5_isWithin_2 : decode cX5_isWithin 2 = .ok (.lcmp, 1) := by decide +kernel
theorem dX5_isWithin_3 : decode cX5_isWithin 3 = .ok (.ifCond .lt 14, 3) := by decide +kernel
theorem dX5_isWithin_6 : decode cX5_isWithin 6 = .ok (.lload_n 0, 1) := by decide +kernel
theorem dX5_isWithin_7 : decode cX5_isWithin 7 = .ok (.lload 4, 2) := by decide +kernel
theorem dX5_isWithin_9 : decode cX5_isWithin 9 = .ok (.lcmp, 1) := by decide +kernel
theorem dX5_isWithin_10 : decode cX5_isWithin 10 = .ok (.ifCond .gt 7, 3) := by decide +kernel
theorem dX5_isWithin_13 : decode cX5_isWithin 13 = .ok (.iconst 1, 1) := by decide +kernel
theorem dX5_isWithin_14 : decode cX5_isWithin 14 = .ok (.goto 4, 3) := by decide +kernel
theorem dX5_isWithin_17 : decode cX5_isWithin 17 = .ok (.iconst 0, 1) := by decide +kernel
theorem dX5_isWithin_18 : decode cX5_isWithin 18 = .ok (.ireturn, 1) := by decide +kernel
theorem dX5_isSize_0 : decode cX5_isSize 0 = .ok (.dload_n 0, 1) := by decide +kernel
theorem dX5_isSize_1 : decode cX5_isSize 1 = .ok (.dload_n 2, 1) := by decide +kernel
theorem dX5_isSize_2 : decode cX5_isSize 2 = .ok (.dcmp .l, 1) := by decide +kernel
theorem dX5_isSize_3 : decode cX5_isSize 3 = .ok (.ifCond .lt 14, 3) := by decide +kernel
theorem dX5_isSize_6 : decode cX5_isSize 6 = .ok (.dload_n 0, 1) := by decide +kernel
theorem dX5_isSize_7 : decode cX5_isSize 7 = .ok (.dload 4, 2) := by decide +kernel
theorem dX5_isSize_9 : decode cX5_isSize 9 = .ok (.dcmp .g, 1) := by decide +kernel
theorem dX5_isSize_10 : decode cX5_isSize 10 = .ok (.ifCond .gt 7, 3) := by decide +kernel
theorem dX5_isSize_13 : decode cX5_isSize 13 = .ok (.iconst 1, 1) := by decide +kernel
theorem dX5_isSize_14 : decode cX5_isSize 14 = .ok (.goto 4, 3) := by decide +kernel
theorem dX5_isSize_17 : decode cX5_isSize 17 = .ok (.iconst 0, 1) := by decide +kernel
theorem dX5_isSize_18 : decode cX5_isSize 18 = .ok (.ireturn, 1) := by decide +kernel
theorem dX5_needPlace_0 : decode cX5_needPlace 0 = .ok (.lload_n 0, 1) := by decide +kernel
theorem dX5_needPlace_1 : decode cX5_needPlace 1 = .ok (.ldc2_w 237, 3) := by decide +kernel
theorem dX5_needPlace_4 : decode cX5_needPlace 4 = .ok (.ldc2_w 84, 3) := by decide +kernel
theorem dX5_needPlace_7 : decode cX5_needPlace 7 = .ok (.invokestatic 86, 3) := by decide +kernel
theorem dX5_needPlace_10 : decode cX5_needPlace 10 = .ok (.ifCond .ne 13, 3) := by decide +kernel
theorem dX5_needPlace_13 : decode cX5_needPlace 13 = .ok (.new 90, 3) := by decide +kernel
theorem dX5_needPlace_16 : decode cX5_needPlace 16 = .ok (.dup, 1) := by decide +kernel
theorem dX5_needPlace_17 : decode cX5_needPlace 17 = .ok (.ldc 239, 2) := by decide +kernel
theorem dX5_needPlace_19 : decode cX5_needPlace 19 = .ok (.invokespecial 94, 3) := by decide +kernel
theorem dX5_needPlace_22 : decode cX5_needPlace 22 = .ok (.athrow, 1) := by decide +kernel
theorem dX5_needPlace_23 : decode cX5_needPlace 23 = .ok (.return_, 1) := by decide +kernel
theorem dX5_needGrams_0 : decode cX5_needGrams 0 = .ok (.lload_n 0, 1) := by decide +kernel
theorem dX5_needGrams_1 : decode cX5_needGrams 1 = .ok (.lconst 0, 1) := by decide +kernel
theorem dX5_needGrams_2 : decode cX5_needGrams 2 = .ok (.ldc2_w 241, 3) := by decide +kernel
theorem dX5_needGrams_5 : decode cX5_needGrams 5 = .ok (.invokestatic 86, 3) := by decide +kernel
theorem dX5_needGrams_8 : decode cX5_needGrams 8 = .ok (.ifCond .ne 13, 3) := by decide +kernel
theorem dX5_needGrams_11 : decode cX5_needGrams 11 = .ok (.new 90, 3) := by decide +kernel
theorem dX5_needGrams_14 : decode cX5_needGrams 14 = .ok (.dup, 1) := by decide +kernel
theorem dX5_needGrams_15 : decode cX5_needGrams 15 = .ok (.ldc 243, 2) := by decide +kernel
theorem dX5_needGrams_17 : decode cX5_needGrams 17 = .ok (.invokespecial 94, 3) := by decide +kernel
theorem dX5_needGrams_20 : decode cX5_needGrams 20 = .ok (.athrow, 1) := by decide +kernel
theorem dX5_needGrams_21 : decode cX5_needGrams 21 = .ok (.return_, 1) := by decide +kernel
theorem dX5_needHeight_0 : decode cX5_needHeight 0 = .ok (.lload_n 0, 1) := by decide +kernel
theorem dX5_needHeight_1 : decode cX5_needHeight 1 = .ok (.ldc2_w 245, 3) := by decide +kernel
theorem dX5_needHeight_4 : decode cX5_needHeight 4 = .ok (.ldc2_w 247, 3) := by decide +kernel
theorem dX5_needHeight_7 : decode cX5_needHeight 7 = .ok (.invokestatic 86, 3) := by decide +kernel
theorem dX5_needHeight_10 : decode cX5_needHeight 10 = .ok (.ifCond .ne 13, 3) := by decide +kernel
theorem dX5_needHeight_13 : decode cX5_needHeight 13 = .ok (.new 90, 3) := by decide +kernel
theorem dX5_needHeight_16 : decode cX5_needHeight 16 = .ok (.dup, 1) := by decide +kernel
theorem dX5_needHeight_17 : decode cX5_needHeight 17 = .ok (.ldc 249, 2) := by decide +kernel
theorem dX5_needHeight_19 : decode cX5_needHeight 19 = .ok (.invokespecial 94, 3) := by decide +kernel
theorem dX5_needHeight_22 : decode cX5_needHeight 22 = .ok (.athrow, 1) := by decide +kernel
theorem dX5_needHeight_23 : decode cX5_needHeight 23 = .ok (.return_, 1) := by decide +kernel
theorem dX5_needPolygon_0 : decode cX5_needPolygon 0 = .ok (.aload_n 0, 1) := by decide +kernel
theorem dX5_needPolygon_1 : decode cX5_needPolygon 1 = .ok (.getfield 19, 3) := by decide +kernel
theorem dX5_needPolygon_4 : decode cX5_needPolygon 4 = .ok (.invokevirtual 251, 3) := by decide +kernel
theorem dX5_needPolygon_7 : decode cX5_needPolygon 7 = .ok (.ifCond .eq 13, 3) := by decide +kernel
theorem dX5_needPolygon_10 : decode cX5_needPolygon 10 = .ok (.new 52, 3) := by decide +kernel
theorem dX5_needPolygon_13 : decode cX5_needPolygon 13 = .ok (.dup, 1) := by decide +kernel
theorem dX5_needPolygon_14 : decode cX5_needPolygon 14 = .ok (.ldc 254, 2) := by decide +kernel
theorem dX5_needPolygon_16 : decode cX5_needPolygon 16 = .ok (.invokespecial 56, 3) := by decide +kernel
theorem dX5_needPolygon_19 : decode cX5_needPolygon 19 = .ok (.athrow, 1) := by decide +kernel
theorem dX5_needPolygon_20 : decode cX5_needPolygon 20 = .ok (.return_, 1) := by decide +kernel
theorem dX5_commonDivisor_0 : decode cX5_commonDivisor 0 = .ok (.lload_n 0, 1) := by decide +kernel
theorem dX5_commonDivisor_1 : decode cX5_commonDivisor 1 = .ok (.lstore 4, 2) := by decide +kernel
theorem dX5_commonDivisor_3 : decode cX5_commonDivisor 3 = .ok (.lload_n 2, 1) := by decide +kernel
theorem dX5_commonDivisor_4 : decode cX5_commonDivisor 4 = .ok (.lstore 6, 2) := by decide +kernel
theorem dX5_commonDivisor_6 : decode cX5_commonDivisor 6 = .ok (.iconst 0, 1) := by decide +kernel
theorem dX5_commonDivisor_7 : decode cX5_commonDivisor 7 = .ok (.istore 8, 2) := by decide +kernel
theorem dX5_commonDivisor_9 : decode cX5_commonDivisor 9 = .ok (.iload 8, 2) := by decide +kernel
theorem dX5_commonDivisor_11 : decode cX5_commonDivisor 11 = .ok (.bipush 100, 2) := by decide +kernel
theorem dX5_commonDivisor_13 : decode cX5_commonDivisor 13 = .ok (.if_icmp .ge 31, 3) := by decide +kernel
theorem dX5_commonDivisor_16 : decode cX5_commonDivisor 16 = .ok (.lload 6, 2) := by decide +kernel
theorem dX5_commonDivisor_18 : decode cX5_commonDivisor 18 = .ok (.lconst 0, 1) := by decide +kernel
theorem dX5_commonDivisor_19 : decode cX5_commonDivisor 19 = .ok (.lcmp, 1) := by decide +kernel
theorem dX5_commonDivisor_20 : decode cX5_commonDivisor 20 = .ok (.ifCond .eq 24, 3) := by decide +kernel
theorem dX5_commonDivisor_23 : decode cX5_commonDivisor 23 = .ok (.lload 4, 2) := by decide +kernel
theorem dX5_commonDivisor_25 : decode cX5_commonDivisor 25 = .ok (.lload 6, 2) := by decide +kernel
theorem dX5_commonDivisor_27 : decode cX5_commonDivisor 27 = .ok (.lrem, 1) := by decide +kernel
theorem dX5_commonDivisor_28 : decode cX5_commonDivisor 28 = .ok (.lstore 9, 2) := by decide +kernel
theorem dX5_commonDivisor_30 : decode cX5_commonDivisor 30 = .ok (.lload 6, 2) := by decide +kernel
theorem dX5_commonDivisor_32 : decode cX5_commonDivisor 32 = .ok (.lstore 4, 2) := by decide +kernel
theorem dX5_commonDivisor_34 : decode cX5_commonDivisor 34 = .ok (.lload 9, 2) := by decide +kernel
theorem dX5_commonDivisor_36 : decode cX5_commonDivisor 36 = .ok (.lstore 6, 2) := by decide +kernel
theorem dX5_commonDivisor_38 : decode cX5_commonDivisor 38 = .ok (.iinc 8 1, 3) := by decide +kernel
theorem dX5_commonDivisor_41 : decode cX5_commonDivisor 41 = .ok (.goto (-32), 3) := by decide +kernel
theorem dX5_commonDivisor_44 : decode cX5_commonDivisor 44 = .ok (.lload 4, 2) := by decide +kernel
theorem dX5_commonDivisor_46 : decode cX5_commonDivisor 46 = .ok (.lconst 1, 1) := by decide +kernel
theorem dX5_commonDivisor_47 : decode cX5_commonDivisor 47 = .ok (.lcmp, 1) := by decide +kernel
theorem dX5_commonDivisor_48 : decode cX5_commonDivisor 48 = .ok (.ifCond .ge 7, 3) := by decide +kernel
theorem dX5_commonDivisor_51 : decode cX5_commonDivisor 51 = .ok (.lconst 1, 1) := by decide +kernel
theorem dX5_commonDivisor_52 : decode cX5_commonDivisor 52 = .ok (.goto 5, 3) := by decide +kernel
theorem dX5_commonDivisor_55 : decode cX5_commonDivisor 55 = .ok (.lload 4, 2) := by decide +kernel
theorem dX5_commonDivisor_57 : decode cX5_commonDivisor 57 = .ok (.lreturn, 1) := by decide +kernel
theorem dX5_openDrawers_0 : decode cX5_openDrawers 0 = .ok (.aload_n 1, 1) := by decide +kernel
theorem dX5_openDrawers_1 : decode cX5_openDrawers 1 = .ok (.getfield 256, 3) := by decide +kernel
theorem dX5_openDrawers_4 : decode cX5_openDrawers 4 = .ok (.aload_n 0, 1) := by decide +kernel
theorem dX5_openDrawers_5 : decode cX5_openDrawers 5 = .ok (.getfield 44, 3) := by decide +kernel
theorem dX5_openDrawers_8 : decode cX5_openDrawers 8 = .ok (.if_icmp .ge 10, 3) := by decide +kernel
theorem dX5_openDrawers_11 : decode cX5_openDrawers 11 = .ok (.aload_n 1, 1) := by decide +kernel
theorem dX5_openDrawers_12 : decode cX5_openDrawers 12 = .ok (.getfield 256, 3) := by decide +kernel
theorem dX5_openDrawers_15 : decode cX5_openDrawers 15 = .ok (.goto 7, 3) := by decide +kernel
theorem dX5_openDrawers_18 : decode cX5_openDrawers 18 = .ok (.aload_n 0, 1) := by decide +kernel
theorem dX5_openDrawers_19 : decode cX5_openDrawers 19 = .ok (.getfield 44, 3) := by decide +kernel
theorem dX5_openDrawers_22 : decode cX5_openDrawers 22 = .ok (.ireturn, 1) := by decide +kernel
theorem dX5_verdict_0 : decode cX5_verdict 0 = .ok (.iconst 0, 1) := by decide +kernel
theorem dX5_verdict_1 : decode cX5_verdict 1 = .ok (.istore_n 3, 1) := by decide +kernel
theorem dX5_verdict_2 : decode cX5_verdict 2 = .ok (.iload_n 3, 1) := by decide +kernel
theorem dX5_verdict_3 : decode cX5_verdict 3 = .ok (.aload_n 0, 1) := by decide +kernel
theorem dX5_verdict_4 : decode cX5_verdict 4 = .ok (.getfield 19, 3) := by decide +kernel
theorem dX5_verdict_7 : decode cX5_verdict 7 = .ok (.invokevirtual 48, 3) := by decide +kernel
theorem dX5_verdict_10 : decode cX5_verdict 10 = .ok (.if_icmp .ge 35, 3) := by decide +kernel
theorem dX5_verdict_13 : decode cX5_verdict 13 = .ok (.aload_n 0, 1) := by decide +kernel
theorem dX5_verdict_14 : decode cX5_verdict 14 = .ok (.aload_n 0, 1) := by decide +kernel
theorem dX5_verdict_15 : decode cX5_verdict 15 = .ok (.getfield 19, 3) := by decide +kernel
theorem dX5_verdict_18 : decode cX5_verdict 18 = .ok (.iload_n 3, 1) := by decide +kernel
theorem dX5_verdict_19 : decode cX5_verdict 19 = .ok (.invokevirtual 95, 3) := by decide +kernel
theorem dX5_verdict_22 : decode cX5_verdict 22 = .ok (.checkcast 140, 3) := by decide +kernel
theorem dX5_verdict_25 : decode cX5_verdict 25 = .ok (.iload_n 1, 1) := by decide +kernel
theorem dX5_verdict_26 : decode cX5_verdict 26 = .ok (.aload_n 2, 1) := by decide +kernel
theorem dX5_verdict_27 : decode cX5_verdict 27 = .ok (.invokevirtual 157, 3) := by decide +kernel
theorem dX5_verdict_30 : decode cX5_verdict 30 = .ok (.lconst 0, 1) := by decide +kernel
theorem dX5_verdict_31 : decode cX5_verdict 31 = .ok (.lcmp, 1) := by decide +kernel
theorem dX5_verdict_32 : decode cX5_verdict 32 = .ok (.ifCond .ge 7, 3) := by decide +kernel
theorem dX5_verdict_35 : decode cX5_verdict 35 = .ok (.iconst 1, 1) := by decide +kernel
theorem dX5_verdict_36 : decode cX5_verdict 36 = .ok (.iload_n 3, 1) := by decide +kernel
theorem dX5_verdict_37 : decode cX5_verdict 37 = .ok (.iadd, 1) := by decide +kernel
theorem dX5_verdict_38 : decode cX5_verdict 38 = .ok (.ireturn, 1) := by decide +kernel
theorem dX5_verdict_39 : decode cX5_verdict 39 = .ok (.iinc 3 1, 3) := by decide +kernel
theorem dX5_verdict_42 : decode cX5_verdict 42 = .ok (.goto (-40), 3) := by decide +kernel
theorem dX5_verdict_45 : decode cX5_verdict 45 = .ok (.iconst 0, 1) := by decide +kernel
theorem dX5_verdict_46 : decode cX5_verdict 46 = .ok (.ireturn, 1) := by decide +kernel
theorem dX5_momentOver_0 : decode cX5_momentOver 0 = .ok (.aload_n 3, 1) := by decide +kernel
theorem dX5_momentOver_1 : decode cX5_momentOver 1 = .ok (.aload_n 1, 1) := by decide +kernel
theorem dX5_momentOver_2 : decode cX5_momentOver 2 = .ok (.iconst 0, 1) := by decide +kernel
theorem dX5_momentOver_3 : decode cX5_momentOver 3 = .ok (.invokevirtual 259, 3) := by decide +kernel
theorem dX5_momentOver_6 : decode cX5_momentOver 6 = .ok (.lstore 4, 2) := by decide +kernel
theorem dX5_momentOver_8 : decode cX5_momentOver 8 = .ok (.iconst 0, 1) := by decide +kernel
theorem dX5_momentOver_9 : decode cX5_momentOver 9 = .ok (.istore 6, 2) := by decide +kernel
theorem dX5_momentOver_11 : decode cX5_momentOver 11 = .ok (.iload 6, 2) := by decide +kernel
theorem dX5_momentOver_13 : decode cX5_momentOver 13 = .ok (.aload_n 0, 1) := by decide +kernel
theorem dX5_momentOver_14 : decode cX5_momentOver 14 = .ok (.getfield 10, 3) := by decide +kernel
theorem dX5_momentOver_17 : decode cX5_momentOver 17 = .ok (.invokevirtual 48, 3) := by decide +kernel
theorem dX5_momentOver_20 : decode cX5_momentOver 20 = .ok (.if_icmp .ge 31, 3) := by decide +kernel
theorem dX5_momentOver_23 : decode cX5_momentOver 23 = .ok (.lload 4, 2) := by decide +kernel
theorem dX5_momentOver_25 : decode cX5_momentOver 25 = .ok (.aload_n 0, 1) := by decide +kernel
theorem dX5_momentOver_26 : decode cX5_momentOver 26 = .ok (.getfield 10, 3) := by decide +kernel
theorem dX5_momentOver_29 : decode cX5_momentOver 29 = .ok (.iload 6, 2) := by decide +kernel
theorem dX5_momentOver_31 : decode cX5_momentOver 31 = .ok (.invokevirtual 95, 3) := by decide +kernel
theorem dX5_momentOver_34 : decode cX5_momentOver 34 = .ok (.checkcast 29, 3) := by decide +kernel
theorem dX5_momentOver_37 : decode cX5_momentOver 37 = .ok (.aload_n 1, 1) := by decide +kernel
theorem dX5_momentOver_38 : decode cX5_momentOver 38 = .ok (.iload_n 2, 1) := by decide +kernel
theorem dX5_momentOver_39 : decode cX5_momentOver 39 = .ok (.invokevirtual 259, 3) := by decide +kernel
theorem dX5_momentOver_42 : decode cX5_momentOver 42 = .ok (.ladd, 1) := by decide +kernel
theorem dX5_momentOver_43 : decode cX5_momentOver 43 = .ok (.lstore 4, 2) := by decide +kernel
theorem dX5_momentOver_45 : decode cX5_momentOver 45 = .ok (.iinc 6 1, 3) := by decide +kernel
theorem dX5_momentOver_48 : decode cX5_momentOver 48 = .ok (.goto (-37), 3) := by decide +kernel
theorem dX5_momentOver_51 : decode cX5_momentOver 51 = .ok (.lload 4, 2) := by decide +kernel
theorem dX5_momentOver_53 : decode cX5_momentOver 53 = .ok (.lreturn, 1) := by decide +kernel
theorem dX5_layOutSides_0 : decode cX5_layOutSides 0 = .ok (.aload_n 0, 1) := by decide +kernel
theorem dX5_layOutSides_1 : decode cX5_layOutSides 1 = .ok (.getfield 19, 3) := by decide +kernel
theorem dX5_layOutSides_4 : decode cX5_layOutSides 4 = .ok (.invokevirtual 263, 3) := by decide +kernel
theorem dX5_layOutSides_7 : decode cX5_layOutSides 7 = .ok (.aload_n 0, 1) := by decide +kernel
theorem dX5_layOutSides_8 : decode cX5_layOutSides 8 = .ok (.aload_n 0, 1) := by decide +kernel
theorem dX5_layOutSides_9 : decode cX5_layOutSides 9 = .ok (.aload_n 1, 1) := by decide +kernel
theorem dX5_layOutSides_10 : decode cX5_layOutSides 10 = .ok (.invokevirtual 266, 3) := by decide +kernel
theorem dX5_layOutSides_13 : decode cX5_layOutSides 13 = .ok (.invokevirtual 270, 3) := by decide +kernel
theorem dX5_layOutSides_16 : decode cX5_layOutSides 16 = .ok (.astore_n 2, 1) := by decide +kernel
theorem dX5_layOutSides_17 : decode cX5_layOutSides 17 = .ok (.aload_n 2, 1) := by decide +kernel
theorem dX5_layOutSides_18 : decode cX5_layOutSides 18 = .ok (.invokevirtual 48, 3) := by decide +kernel
theorem dX5_layOutSides_21 : decode cX5_layOutSides 21 = .ok (.istore_n 3, 1) := by decide +kernel
theorem dX5_layOutSides_22 : decode cX5_layOutSides 22 = .ok (.iload_n 3, 1) := by decide +kernel
theorem dX5_layOutSides_23 : decode cX5_layOutSides 23 = .ok (.iconst 3, 1) := by decide +kernel
theorem dX5_layOutSides_24 : decode cX5_layOutSides 24 = .ok (.if_icmp .ge 4, 3) := by decide +kernel
theorem dX5_layOutSides_27 : decode cX5_layOutSides 27 = .ok (.return_, 1) := by decide +kernel
theorem dX5_layOutSides_28 : decode cX5_layOutSides 28 = .ok (.iconst 0, 1) := by decide +kernel
theorem dX5_layOutSides_29 : decode cX5_layOutSides 29 = .ok (.istore 4, 2) := by decide +kernel
theorem dX5_layOutSides_31 : decode cX5_layOutSides 31 = .ok (.iload 4, 2) := by decide +kernel
theorem dX5_layOutSides_33 : decode cX5_layOutSides 33 = .ok (.iload_n 3, 1) := by decide +kernel
theorem dX5_layOutSides_34 : decode cX5_layOutSides 34 = .ok (.if_icmp .ge 60, 3) := by decide +kernel
theorem dX5_layOutSides_37 : decode cX5_layOutSides 37 = .ok (.iload 4, 2) := by decide +kernel
theorem dX5_layOutSides_39 : decode cX5_layOutSides 39 = .ok (.iconst 1, 1) := by decide +kernel
theorem dX5_layOutSides_40 : decode cX5_layOutSides 40 = .ok (.iadd, 1) := by decide +kernel
theorem dX5_layOutSides_41 : decode cX5_layOutSides 41 = .ok (.iload_n 3, 1) := by decide +kernel
theorem dX5_layOutSides_42 : decode cX5_layOutSides 42 = .ok (.if_icmp .ge 10, 3) := by decide +kernel
theorem dX5_layOutSides_45 : decode cX5_layOutSides 45 = .ok (.iload 4, 2) := by decide +kernel
theorem dX5_layOutSides_47 : decode cX5_layOutSides 47 = .ok (.iconst 1, 1) := by decide +kernel
theorem dX5_layOutSides_48 : decode cX5_layOutSides 48 = .ok (.iadd, 1) := by decide +kernel
theorem dX5_layOutSides_49 : decode cX5_layOutSides 49 = .ok (.goto 4, 3) := by decide +kernel
theorem dX5_layOutSides_52 : decode cX5_layOutSides 52 = .ok (.iconst 0, 1) := by decide +kernel
theorem dX5_layOutSides_53 : decode cX5_layOutSides 53 = .ok (.istore 5, 2) := by decide +kernel
theorem dX5_layOutSides_55 : decode cX5_layOutSides 55 = .ok (.aload_n 0, 1) := by decide +kernel
theorem dX5_layOutSides_56 : decode cX5_layOutSides 56 = .ok (.getfield 19, 3) := by decide +kernel
theorem dX5_layOutSides_59 : decode cX5_layOutSides 59 = .ok (.new 140, 3) := by decide +kernel
theorem dX5_layOutSides_62 : decode cX5_layOutSides 62 = .ok (.dup, 1) := by decide +kernel
theorem dX5_layOutSides_63 : decode cX5_layOutSides 63 = .ok (.aload_n 2, 1) := by decide +kernel
theorem dX5_layOutSides_64 : decode cX5_layOutSides 64 = .ok (.iload 4, 2) := by decide +kernel
theorem dX5_layOutSides_66 : decode cX5_layOutSides 66 = .ok (.invokevirtual 95, 3) := by decide +kernel
theorem dX5_layOutSides_69 : decode cX5_layOutSides 69 = .ok (.checkcast 70, 3) := by decide +kernel
theorem dX5_layOutSides_72 : decode cX5_layOutSides 72 = .ok (.aload_n 2, 1) := by decide +kernel
theorem dX5_layOutSides_73 : decode cX5_layOutSides 73 = .ok (.iload 5, 2) := by decide +kernel
theorem dX5_layOutSides_75 : decode cX5_layOutSides 75 = .ok (.invokevirtual 95, 3) := by decide +kernel
theorem dX5_layOutSides_78 : decode cX5_layOutSides 78 = .ok (.checkcast 70, 3) := by decide +kernel
theorem dX5_layOutSides_81 : decode cX5_layOutSides 81 = .ok (.invokespecial 274, 3) := by decide +kernel
theorem dX5_layOutSides_84 : decode cX5_layOutSides 84 = .ok (.invokevirtual 66, 3) := by decide +kernel
theorem dX5_layOutSides_87 : decode cX5_layOutSides 87 = .ok (.pop, 1) := by decide +kernel
theorem dX5_layOutSides_88 : decode cX5_layOutSides 88 = .ok (.iinc 4 1, 3) := by decide +kernel
theorem dX5_layOutSides_91 : decode cX5_layOutSides 91 = .ok (.goto (-60), 3) := by decide +kernel
theorem dX5_layOutSides_94 : decode cX5_layOutSides 94 = .ok (.return_, 1) := by decide +kernel
theorem dX5_firstCorner_0 : decode cX5_firstCorner 0 = .ok (.aload_n 1, 1) := by decide +kernel
theorem dX5_firstCorner_1 : decode cX5_firstCorner 1 = .ok (.astore_n 2, 1) := by decide +kernel
theorem dX5_firstCorner_2 : decode cX5_firstCorner 2 = .ok (.iconst 0, 1) := by decide +kernel
theorem dX5_firstCorner_3 : decode cX5_firstCorner 3 = .ok (.istore_n 3, 1) := by decide +kernel
theorem dX5_firstCorner_4 : decode cX5_firstCorner 4 = .ok (.iload_n 3, 1) := by decide +kernel
theorem dX5_firstCorner_5 : decode cX5_firstCorner 5 = .ok (.aload_n 0, 1) := by decide +kernel
theorem dX5_firstCorner_6 : decode cX5_firstCorner 6 = .ok (.getfield 16, 3) := by decide +kernel
theorem dX5_firstCorner_9 : decode cX5_firstCorner 9 = .ok (.invokevirtual 48, 3) := by decide +kernel
theorem dX5_firstCorner_12 : decode cX5_firstCorner 12 = .ok (.if_icmp .ge 34, 3) := by decide +kernel
theorem dX5_firstCorner_15 : decode cX5_firstCorner 15 = .ok (.aload_n 0, 1) := by decide +kernel
theorem dX5_firstCorner_16 : decode cX5_firstCorner 16 = .ok (.getfield 16, 3) := by decide +kernel
theorem dX5_firstCorner_19 : decode cX5_firstCorner 19 = .ok (.iload_n 3, 1) := by decide +kernel
theorem dX5_firstCorner_20 : decode cX5_firstCorner 20 = .ok (.invokevirtual 95, 3) := by decide +kernel
theorem dX5_firstCorner_23 : decode cX5_firstCorner 23 = .ok (.checkcast 70, 3) := by decide +kernel
theorem dX5_firstCorner_26 : decode cX5_firstCorner 26 = .ok (.astore 4, 2) := by decide +kernel
theorem dX5_firstCorner_28 : decode cX5_firstCorner 28 = .ok (.aload 4, 2) := by decide +kernel
theorem dX5_firstCorner_30 : decode cX5_firstCorner 30 = .ok (.aload_n 2, 1) := by decide +kernel
theorem dX5_firstCorner_31 : decode cX5_firstCorner 31 = .ok (.invokevirtual 277, 3) := by decide +kernel
theorem dX5_firstCorner_34 : decode cX5_firstCorner 34 = .ok (.ifCond .eq 6, 3) := by decide +kernel
theorem dX5_firstCorner_37 : decode cX5_firstCorner 37 = .ok (.aload 4, 2) := by decide +kernel
theorem dX5_firstCorner_39 : decode cX5_firstCorner 39 = .ok (.astore_n 2, 1) := by decide +kernel
theorem dX5_firstCorner_40 : decode cX5_firstCorner 40 = .ok (.iinc 3 1, 3) := by decide +kernel
theorem dX5_firstCorner_43 : decode cX5_firstCorner 43 = .ok (.goto (-39), 3) := by decide +kernel
theorem dX5_firstCorner_46 : decode cX5_firstCorner 46 = .ok (.aload_n 2, 1) := by decide +kernel
theorem dX5_firstCorner_47 : decode cX5_firstCorner 47 = .ok (.areturn, 1) := by decide +kernel
theorem dX5_cornersAgainstClock_0 : decode cX5_cornersAgainstClock 0 = .ok (.new 7, 3) := by decide +kernel
theorem dX5_cornersAgainstClock_3 : decode cX5_cornersAgainstClock 3 = .ok (.dup, 1) := by decide +kernel
theorem dX5_cornersAgainstClock_4 : decode cX5_cornersAgainstClock 4 = .ok (.invokespecial 9, 3) := by decide +kernel
theorem dX5_cornersAgainstClock_7 : decode cX5_cornersAgainstClock 7 = .ok (.astore_n 2, 1) := by decide +kernel
theorem dX5_cornersAgainstClock_8 : decode cX5_cornersAgainstClock 8 = .ok (.aload_n 1, 1) := by decide +kernel
theorem dX5_cornersAgainstClock_9 : decode cX5_cornersAgainstClock 9 = .ok (.astore_n 3, 1) := by decide +kernel
theorem dX5_cornersAgainstClock_10 : decode cX5_cornersAgainstClock 10 = .ok (.iconst 0, 1) := by decide +kernel
theorem dX5_cornersAgainstClock_11 : decode cX5_cornersAgainstClock 11 = .ok (.istore 4, 2) := by decide +kernel
theorem dX5_cornersAgainstClock_13 : decode cX5_cornersAgainstClock 13 = .ok (.iload 4, 2) := by decide +kernel
theorem dX5_cornersAgainstClock_15 : decode cX5_cornersAgainstClock 15 = .ok (.aload_n 0, 1) := by decide +kernel
theorem dX5_cornersAgainstClock_16 : decode cX5_cornersAgainstClock 16 = .ok (.getfield 16, 3) := by decide +kernel
theorem dX5_cornersAgainstClock_19 : decode cX5_cornersAgainstClock 19 = .ok (.invokevirtual 48, 3) := by decide +kernel
theorem dX5_cornersAgainstClock_22 : decode cX5_cornersAgainstClock 22 = .ok (.if_icmp .ge 35, 3) := by decide +kernel
theorem dX5_cornersAgainstClock_25 : decode cX5_cornersAgainstClock 25 = .ok (.aload_n 2, 1) := by decide +kernel
theorem dX5_cornersAgainstClock_26 : decode cX5_cornersAgainstClock 26 = .ok (.aload_n 3, 1) := by decide +kernel
theorem dX5_cornersAgainstClock_27 : decode cX5_cornersAgainstClock 27 = .ok (.invokevirtual 66, 3) := by decide +kernel
theorem dX5_cornersAgainstClock_30 : decode cX5_cornersAgainstClock 30 = .ok (.pop, 1) := by decide +kernel
theorem dX5_cornersAgainstClock_31 : decode cX5_cornersAgainstClock 31 = .ok (.aload_n 0, 1) := by decide +kernel
theorem dX5_cornersAgainstClock_32 : decode cX5_cornersAgainstClock 32 = .ok (.aload_n 3, 1) := by decide +kernel
theorem dX5_cornersAgainstClock_33 : decode cX5_cornersAgainstClock 33 = .ok (.invokevirtual 281, 3) := by decide +kernel
theorem dX5_cornersAgainstClock_36 : decode cX5_cornersAgainstClock 36 = .ok (.astore_n 3, 1) := by decide +kernel
theorem dX5_cornersAgainstClock_37 : decode cX5_cornersAgainstClock 37 = .ok (.aload_n 3, 1) := by decide +kernel
theorem dX5_cornersAgainstClock_38 : decode cX5_cornersAgainstClock 38 = .ok (.getfield 146, 3) := by decide +kernel
theorem dX5_cornersAgainstClock_41 : decode cX5_cornersAgainstClock 41 = .ok (.aload_n 1, 1) := by decide +kernel
theorem dX5_cornersAgainstClock_42 : decode cX5_cornersAgainstClock 42 = .ok (.getfield 146, 3) := by decide +kernel
theorem dX5_cornersAgainstClock_45 : decode cX5_cornersAgainstClock 45 = .ok (.if_icmp .ne 6, 3) := by decide +kernel
theorem dX5_cornersAgainstClock_48 : decode cX5_cornersAgainstClock 48 = .ok (.goto 9, 3) := by decide +kernel
theorem dX5_cornersAgainstClock_51 : decode cX5_cornersAgainstClock 51 = .ok (.iinc 4 1, 3) := by decide +kernel
theorem dX5_cornersAgainstClock_54 : decode cX5_cornersAgainstClock 54 = .ok (.goto (-41), 3) := by decide +kernel
theorem dX5_cornersAgainstClock_57 : decode cX5_cornersAgainstClock 57 = .ok (.aload_n 2, 1) := by decide +kernel
theorem dX5_cornersAgainstClock_58 : decode cX5_cornersAgainstClock 58 = .ok (.areturn, 1) := by decide +kernel
theorem dX5_cornerAfter_0 : decode cX5_cornerAfter 0 = .ok (.aload_n 1, 1) := by decide +kernel
theorem dX5_cornerAfter_1 : decode cX5_cornerAfter 1 = .ok (.astore_n 2, 1) := by decide +kernel
theorem dX5_cornerAfter_2 : decode cX5_cornerAfter 2 = .ok (.iconst 0, 1) := by decide +kernel
theorem dX5_cornerAfter_3 : decode cX5_cornerAfter 3 = .ok (.istore_n 3, 1) := by decide +kernel
theorem dX5_cornerAfter_4 : decode cX5_cornerAfter 4 = .ok (.iload_n 3, 1) := by decide +kernel
theorem dX5_cornerAfter_5 : decode cX5_cornerAfter 5 = .ok (.aload_n 0, 1) := by decide +kernel
theorem dX5_cornerAfter_6 : decode cX5_cornerAfter 6 = .ok (.getfield 16, 3) := by decide +kernel
theorem dX5_cornerAfter_9 : decode cX5_cornerAfter 9 = .ok (.invokevirtual 48, 3) := by decide +kernel
theorem dX5_cornerAfter_12 : decode cX5_cornerAfter 12 = .ok (.if_icmp .ge 35, 3) := by decide +kernel
theorem dX5_cornerAfter_15 : decode cX5_cornerAfter 15 = .ok (.aload_n 0, 1) := by decide +kernel
theorem dX5_cornerAfter_16 : decode cX5_cornerAfter 16 = .ok (.getfield 16, 3) := by decide +kernel
theorem dX5_cornerAfter_19 : decode cX5_cornerAfter 19 = .ok (.iload_n 3, 1) := by decide +kernel
theorem dX5_cornerAfter_20 : decode cX5_cornerAfter 20 = .ok (.invokevirtual 95, 3) := by decide +kernel
theorem dX5_cornerAfter_23 : decode cX5_cornerAfter 23 = .ok (.checkcast 70, 3) := by decide +kernel
theorem dX5_cornerAfter_26 : decode cX5_cornerAfter 26 = .ok (.astore 4, 2) := by decide +kernel
theorem dX5_cornerAfter_28 : decode cX5_cornerAfter 28 = .ok (.aload_n 1, 1) := by decide +kernel
theorem dX5_cornerAfter_29 : decode cX5_cornerAfter 29 = .ok (.aload_n 2, 1) := by decide +kernel
theorem dX5_cornerAfter_30 : decode cX5_cornerAfter 30 = .ok (.aload 4, 2) := by decide +kernel
theorem dX5_cornerAfter_32 : decode cX5_cornerAfter 32 = .ok (.invokevirtual 284, 3) := by decide +kernel
theorem dX5_cornerAfter_35 : decode cX5_cornerAfter 35 = .ok (.ifCond .eq 6, 3) := by decide +kernel
theorem dX5_cornerAfter_38 : decode cX5_cornerAfter 38 = .ok (.aload 4, 2) := by decide +kernel
theorem dX5_cornerAfter_40 : decode cX5_cornerAfter 40 = .ok (.astore_n 2, 1) := by decide +kernel
theorem dX5_cornerAfter_41 : decode cX5_cornerAfter 41 = .ok (.iinc 3 1, 3) := by decide +kernel
theorem dX5_cornerAfter_44 : decode cX5_cornerAfter 44 = .ok (.goto (-40), 3) := by decide +kernel
theorem dX5_cornerAfter_47 : decode cX5_cornerAfter 47 = .ok (.aload_n 2, 1) := by decide +kernel
theorem dX5_cornerAfter_48 : decode cX5_cornerAfter 48 = .ok (.areturn, 1) := by decide +kernel
theorem dX6_init_0 : decode cX6_init 0 = .ok (.aload_n 0, 1) := by decide +kernel
theorem dX6_init_1 : decode cX6_init 1 = .ok (.invokespecial 1, 3) := by decide +kernel
theorem dX6_init_4 : decode cX6_init 4 = .ok (.aload_n 0, 1) := by decide +kernel
theorem dX6_init_5 : decode cX6_init 5 = .ok (.bipush 16, 2) := by decide +kernel
theorem dX6_init_7 : decode cX6_init 7 = .ok (.newarray .long, 2) := by decide +kernel
theorem dX6_init_9 : decode cX6_init 9 = .ok (.putfield 7, 3) := by decide +kernel
theorem dX6_init_12 : decode cX6_init 12 = .ok (.aload_n 0, 1) := by decide +kernel
theorem dX6_init_13 : decode cX6_init 13 = .ok (.bipush 16, 2) := by decide +kernel
theorem dX6_init_15 : decode cX6_init 15 = .ok (.newarray .long, 2) := by decide +kernel
theorem dX6_init_17 : decode cX6_init 17 = .ok (.putfield 13, 3) := by decide +kernel
theorem dX6_init_20 : decode cX6_init 20 = .ok (.aload_n 0, 1) := by decide +kernel
theorem dX6_init_21 : decode cX6_init 21 = .ok (.bipush 16, 2) := by decide +kernel
theorem dX6_init_23 : decode cX6_init 23 = .ok (.newarray .long, 2) := by decide +kernel
theorem dX6_init_25 : decode cX6_init 25 = .ok (.putfield 16, 3) := by decide +kernel
theorem dX6_init_28 : decode cX6_init 28 = .ok (.aload_n 0, 1) := by decide +kernel
theorem dX6_init_29 : decode cX6_init 29 = .ok (.bipush 16, 2) := by decide +kernel
theorem dX6_init_31 : decode cX6_init 31 = .ok (.newarray .long, 2) := by decide +kernel
theorem dX6_init_33 : decode cX6_init 33 = .ok (.putfield 19, 3) := by decide +kernel
theorem dX6_init_36 : decode cX6_init 36 = .ok (.aload_n 0, 1) := by decide +kernel
theorem dX6_init_37 : decode cX6_init 37 = .ok (.bipush 16, 2) := by decide +kernel
theorem dX6_init_39 : decode cX6_init 39 = .ok (.newarray .long, 2) := by decide +kernel
theorem dX6_init_41 : decode cX6_init 41 = .ok (.putfield 22, 3) := by decide +kernel
theorem dX6_init_44 : decode cX6_init 44 = .ok (.aload_n 0, 1) := by decide +kernel
theorem dX6_init_45 : decode cX6_init 45 = .ok (.bipush 12, 2) := by decide +kernel
theorem dX6_init_47 : decode cX6_init 47 = .ok (.newarray .long, 2) := by decide +kernel
theorem dX6_init_49 : decode cX6_init 49 = .ok (.putfield 25, 3) := by decide +kernel
theorem dX6_init_52 : decode cX6_init 52 = .ok (.aload_n 0, 1) := by decide +kernel
theorem dX6_init_53 : decode cX6_init 53 = .ok (.bipush 12, 2) := by decide +kernel
theorem dX6_init_55 : decode cX6_init 55 = .ok (.newarray .long, 2) := by decide +kernel
theorem dX6_init_57 : decode cX6_init 57 = .ok (.putfield 28, 3) := by decide +kernel
theorem dX6_init_60 : decode cX6_init 60 = .ok (.aload_n 0, 1) := by decide +kernel
theorem dX6_init_61 : decode cX6_init 61 = .ok (.bipush 8, 2) := by decide +kernel
theorem dX6_init_63 : decode cX6_init 63 = .ok (.newarray .int, 2) := by decide +kernel
theorem dX6_init_65 : decode cX6_init 65 = .ok (.putfield 31, 3) := by decide +kernel
theorem dX6_init_68 : decode cX6_init 68 = .ok (.aload_n 0, 1) := by decide +kernel
theorem dX6_init_69 : decode cX6_init 69 = .ok (.bipush 12, 2) := by decide +kernel
theorem dX6_init_71 : decode cX6_init 71 = .ok (.newarray .int, 2) := by decide +kernel
theorem dX6_init_73 : decode cX6_init 73 = .ok (.putfield 35, 3) := by decide +kernel
theorem dX6_init_76 : decode cX6_init 76 = .ok (.aload_n 0, 1) := by decide +kernel
theorem dX6_init_77 : decode cX6_init 77 = .ok (.sipush 200, 3) := by decide +kernel
theorem dX6_init_80 : decode cX6_init 80 = .ok (.newarray .int, 2) := by decide +kernel
theorem dX6_init_82 : decode cX6_init 82 = .ok (.putfield 38, 3) := by decide +kernel
theorem dX6_init_85 : decode cX6_init 85 = .ok (.aload_n 0, 1) := by decide +kernel
theorem dX6_init_86 : decode cX6_init 86 = .ok (.bipush 48, 2) := by decide +kernel
theorem dX6_init_88 : decode cX6_init 88 = .ok (.newarray .int, 2) := by decide +kernel
theorem dX6_init_90 : decode cX6_init 90 = .ok (.putfield 41, 3) := by decide +kernel
theorem dX6_init_93 : decode cX6_init 93 = .ok (.aload_n 0, 1) := by decide +kernel
theorem dX6_init_94 : decode cX6_init 94 = .ok (.bipush 48, 2) := by decide +kernel
theorem dX6_init_96 : decode cX6_init 96 = .ok (.newarray .int, 2) := by decide +kernel
theorem dX6_init_98 : decode cX6_init 98 = .ok (.putfield 44, 3) := by decide +kernel
theorem dX6_init_101 : decode cX6_init 101 = .ok (.return_, 1) := by decide +kernel
theorem dX6_thrown_0 : decode cX6_thrown 0 = .ok (.aload_n 0, 1) := by decide +kernel
theorem dX6_thrown_1 : decode cX6_thrown 1 = .ok (.getfield 47, 3) := by decide +kernel
theorem dX6_thrown_4 : decode cX6_thrown 4 = .ok (.ireturn, 1) := by decide +kernel
theorem dX6_isIn_0 : decode cX6_isIn 0 = .ok (.lload_n 0, 1) := by decide +kernel
theorem dX6_isIn_1 : decode cX6_isIn 1 = .ok (.lload_n 2, 1) := by decide +kernel
theorem dX6_isIn_2 : decode cX6_isIn 2 = .ok (.lcmp, 1) := by decide +kernel
theorem dX6_isIn_3 : decode cX6_isIn 3 = .ok (.ifCond .lt 14, 3) := by decide +kernel
theorem dX6_isIn_6 : decode cX6_isIn 6 = .ok (.lload_n 0, 1) := by decide +kernel
theorem dX6_isIn_7 : decode cX6_isIn 7 = .ok (.lload 4, 2) := by decide +kernel
theorem dX6_isIn_9 : decode cX6_isIn 9 = .ok (.lcmp, 1) := by decide +kernel
theorem dX6_isIn_10 : decode cX6_isIn 10 = .ok (.ifCond .gt 7, 3) := by decide +kernel
theorem dX6_isIn_13 : decode cX6_isIn 13 = .ok (.iconst 1, 1) := by decide +kernel
theorem dX6_isIn_14 : decode cX6_isIn 14 = .ok (.goto 4, 3) := by decide +kernel
theorem dX6_isIn_17 : decode cX6_isIn 17 = .ok (.iconst 0, 1) := by decide +kernel
theorem dX6_isIn_18 : decode cX6_isIn 18 = .ok (.ireturn, 1) := by decide +kernel
theorem dX6_isPlace_0 : decode cX6_isPlace 0 = .ok (.lload_n 0, 1) := by decide +kernel
theorem dX6_isPlace_1 : decode cX6_isPlace 1 = .ok (.ldc2_w 51, 3) := by decide +kernel
theorem dX6_isPlace_4 : decode cX6_isPlace 4 = .ok (.lcmp, 1) := by decide +kernel
theorem dX6_isPlace_5 : decode cX6_isPlace 5 = .ok (.ifCond .lt 15, 3) := by decide +kernel
theorem dX6_isPlace_8 : decode cX6_isPlace 8 = .ok (.lload_n 0, 1) := by decide +kernel
theorem dX6_isPlace_9 : decode cX6_isPlace 9 = .ok (.ldc2_w 53, 3) := by decide +kernel
theorem dX6_isPlace_12 : decode cX6_isPlace 12 = .ok (.lcmp, 1) := by decide +kernel
theorem dX6_isPlace_13 : decode cX6_isPlace 13 = .ok (.ifCond .gt 7, 3) := by decide +kernel
theorem dX6_isPlace_16 : decode cX6_isPlace 16 = .ok (.iconst 1, 1) := by decide +kernel
theorem dX6_isPlace_17 : decode cX6_isPlace 17 = .ok (.goto 4, 3) := by decide +kernel
theorem dX6_isPlace_20 : decode cX6_isPlace 20 = .ok (.iconst 0, 1) := by decide +kernel
theorem dX6_isPlace_21 : decode cX6_isPlace 21 = .ok (.ireturn, 1) := by decide +kernel
theorem dX6_part_0 : decode cX6_part 0 = .ok (.lload_n 1, 1) := by decide +kernel
theorem dX6_part_1 : decode cX6_part 1 = .ok (.invokestatic 55, 3) := by decide +kernel
theorem dX6_part_4 : decode cX6_part 4 = .ok (.ifCond .eq 34, 3) := by decide +kernel
theorem dX6_part_7 : decode cX6_part 7 = .ok (.lload_n 3, 1) := by decide +kernel
theorem dX6_part_8 : decode cX6_part 8 = .ok (.invokestatic 55, 3) := by decide +kernel
theorem dX6_part_11 : decode cX6_part 11 = .ok (.ifCond .eq 27, 3) := by decide +kernel
theorem dX6_part_14 : decode cX6_part 14 = .ok (.lload 5, 2) := by decide +kernel
theorem dX6_part_16 : decode cX6_part 16 = .ok (.invokestatic 55, 3) := by decide +kernel
theorem dX6_part_19 : decode cX6_part 19 = .ok (.ifCond .eq 19, 3) := by decide +kernel
theorem dX6_part_22 : decode cX6_part 22 = .ok (.lload 7, 2) := by decide +kernel
theorem dX6_part_24 : decode cX6_part 24 = .ok (.lconst 0, 1) := by decide +kernel
theorem dX6_part_25 : decode cX6_part 25 = .ok (.ldc2_w 59, 3) := by decide +kernel
theorem dX6_part_28 : decode cX6_part 28 = .ok (.invokestatic 61, 3) := by decide +kernel
theorem dX6_part_31 : decode cX6_part 31 = .ok (.ifCond .eq 7, 3) := by decide +kernel
theorem dX6_part_34 : decode cX6_part 34 = .ok (.iconst 1, 1) := by decide +kernel
theorem dX6_part_35 : decode cX6_part 35 = .ok (.goto 4, 3) := by decide +kernel
theorem dX6_part_38 : decode cX6_part 38 = .ok (.iconst 0, 1) := by decide +kernel
theorem dX6_part_39 : decode cX6_part 39 = .ok (.istore 9, 2) := by decide +kernel
theorem dX6_part_41 : decode cX6_part 41 = .ok (.aload_n 0, 1) := by decide +kernel
theorem dX6_part_42 : decode cX6_part 42 = .ok (.aload_n 0, 1) := by decide +kernel
theorem dX6_part_43 : decode cX6_part 43 = .ok (.getfield 65, 3) := by decide +kernel
theorem dX6_part_46 : decode cX6_part 46 = .ok (.bipush 16, 2) := by decide +kernel
theorem dX6_part_48 : decode cX6_part 48 = .ok (.if_icmp .ne 7, 3) := by decide +kernel
theorem dX6_part_51 : decode cX6_part 51 = .ok (.iconst 1, 1) := by decide +kernel
theorem dX6_part_52 : decode cX6_part 52 = .ok (.goto 13, 3) := by decide +kernel
theorem dX6_part_55 : decode cX6_part 55 = .ok (.iload 9, 2) := by decide +kernel
theorem dX6_part_57 : decode cX6_part 57 = .ok (.ifCond .eq 7, 3) := by decide +kernel
theorem dX6_part_60 : decode cX6_part 60 = .ok (.iconst 0, 1) := by decide +kernel
theorem dX6_part_61 : decode cX6_part 61 = .ok (.goto 4, 3) := by decide +kernel
theorem dX6_part_64 : decode cX6_part 64 = .ok (.iconst 2, 1) := by decide +kernel
theorem dX6_part_65 : decode cX6_part 65 = .ok (.putfield 47, 3) := by decide +kernel
theorem dX6_part_68 : decode cX6_part 68 = .ok (.aload_n 0, 1) := by decide +kernel
theorem dX6_part_69 : decode cX6_part 69 = .ok (.getfield 47, 3) := by decide +kernel
theorem dX6_part_72 : decode cX6_part 72 = .ok (.ifCond .le 5, 3) := by decide +kernel
theorem dX6_part_75 : decode cX6_part 75 = .ok (.iconst 0, 1) := by decide +kernel
theorem dX6_part_76 : decode cX6_part 76 = .ok (.ireturn, 1) := by decide +kernel
theorem dX6_part_77 : decode cX6_part 77 = .ok (.aload_n 0, 1) := by decide +kernel
theorem dX6_part_78 : decode cX6_part 78 = .ok (.getfield 7, 3) := by decide +kernel
theorem dX6_part_81 : decode cX6_part 81 = .ok (.aload_n 0, 1) := by decide +kernel
theorem dX6_part_82 : decode cX6_part 82 = .ok (.getfield 65, 3) := by decide +kernel
theorem dX6_part_85 : decode cX6_part 85 = .ok (.lload_n 1, 1) := by decide +kernel
theorem dX6_part_86 : decode cX6_part 86 = .ok (.lastore, 1) := by decide +kernel
theorem dX6_part_87 : decode cX6_part 87 = .ok (.aload_n 0, 1) := by decide +kernel
theorem dX6_part_88 : decode cX6_part 88 = .ok (.getfield 13, 3) := by decide +kernel
theorem dX6_part_91 : decode cX6_part 91 = .ok (.aload_n 0, 1) := by decide +kernel
theorem dX6_part_92 : decode cX6_part 92 = .ok (.getfield 65, 3) := by decide +kernel
theorem dX6_part_95 : decode cX6_part 95 = .ok (.lload_n 3, 1) := by decide +kernel
theorem dX6_part_96 : decode cX6_part 96 = .ok (.lastore, 1) := by decide +kernel
theorem dX6_part_97 : decode cX6_part 97 = .ok (.aload_n 0, 1) := by decide +kernel
theorem dX6_part_98 : decode cX6_part 98 = .ok (.getfield 16, 3) := by decide +kernel
theorem dX6_part_101 : decode cX6_part 101 = .ok (.aload_n 0, 1) := by decide +kernel
theorem dX6_part_102 : decode cX6_part 102 = .ok (.getfield 65, 3) := by decide +kernel
theorem dX6_part_105 : decode cX6_part 105 = .ok (.lload 5, 2) := by decide +kernel
theorem dX6_part_107 : decode cX6_part 107 = .ok (.lastore, 1) := by decide +kernel
theorem dX6_part_108 : decode cX6_part 108 = .ok (.aload_n 0, 1) := by decide +kernel
theorem dX6_part_109 : decode cX6_part 109 = .ok (.getfield 19, 3) := by decide +kernel
theorem dX6_part_112 : decode cX6_part 112 = .ok (.aload_n 0, 1) := by decide +kernel
theorem dX6_part_113 : decode cX6_part 113 = .ok (.getfield 65, 3) := by decide +kernel
theorem dX6_part_116 : decode cX6_part 116 = .ok (.lload 7, 2) := by decide +kernel
theorem dX6_part_118 : decode cX6_part 118 = .ok (.lastore, 1) := by decide +kernel
theorem dX6_part_119 : decode cX6_part 119 = .ok (.aload_n 0, 1) := by decide +kernel
theorem dX6_part_120 : decode cX6_part 120 = .ok (.dup, 1) := by decide +kernel
theorem dX6_part_121 : decode cX6_part 121 = .ok (.getfield 65, 3) := by decide +kernel
theorem dX6_part_124 : decode cX6_part 124 = .ok (.iconst 1, 1) := by decide +kernel
theorem dX6_part_125 : decode cX6_part 125 = .ok (.iadd, 1) := by decide +kernel
theorem dX6_part_126 : decode cX6_part 126 = .ok (.putfield 65, 3) := by decide +kernel
theorem dX6_part_129 : decode cX6_part 129 = .ok (.aload_n 0, 1) := by decide +kernel
theorem dX6_part_130 : decode cX6_part 130 = .ok (.getfield 65, 3) := by decide +kernel
theorem dX6_part_133 : decode cX6_part 133 = .ok (.iconst 1, 1) := by decide +kernel
theorem dX6_part_134 : decode cX6_part 134 = .ok (.isub, 1) := by decide +kernel
theorem dX6_part_135 : decode cX6_part 135 = .ok (.ireturn, 1) := by decide +kernel
theorem dX6_foot_0 : decode cX6_foot 0 = .ok (.aload_n 0, 1) := by decide +kernel
theorem dX6_foot_1 : decode cX6_foot 1 = .ok (.lload_n 1, 1) := by decide +kernel
theorem dX6_foot_2 : decode cX6_foot 2 = .ok (.invokestatic 55, 3) := by decide +kernel
theorem dX6_foot_5 : decode cX6_foot 5 = .ok (.ifCond .eq 14, 3) := by decide +kernel
theorem dX6_foot_8 : decode cX6_foot 8 = .ok (.lload_n 3, 1) := by decide +kernel
theorem dX6_foot_9 : decode cX6_foot 9 = .ok (.invokestatic 55, 3) := by decide +kernel
theorem dX6_foot_12 : decode cX6_foot 12 = .ok (.ifCond .eq 7, 3) := by decide +kernel
theorem dX6_foot_15 : decode cX6_foot 15 = .ok (.iconst 0, 1) := by decide +kernel
theorem dX6_foot_16 : decode cX6_foot 16 = .ok (.goto 4, 3) := by decide +kernel
theorem dX6_foot_19 : decode cX6_foot 19 = .ok (.iconst 1, 1) := by decide +kernel
theorem dX6_foot_20 : decode cX6_foot 20 = .ok (.putfield 47, 3) := by decide +kernel
theorem dX6_foot_23 : decode cX6_foot 23 = .ok (.aload_n 0, 1) := by decide +kernel
theorem dX6_foot_24 : decode cX6_foot 24 = .ok (.getfield 47, 3) := by decide +kernel
theorem dX6_foot_27 : decode cX6_foot 27 = .ok (.ifCond .gt 12, 3) := by decide +kernel
theorem dX6_foot_30 : decode cX6_foot 30 = .ok (.aload_n 0, 1) := by decide +kernel
theorem dX6_foot_31 : decode cX6_foot 31 = .ok (.getfield 68, 3) := by decide +kernel
theorem dX6_foot_34 : decode cX6_foot 34 = .ok (.bipush 12, 2) := by decide +kernel
theorem dX6_foot_36 : decode cX6_foot 36 = .ok (.if_icmp .ne 5, 3) := by decide +kernel
theorem dX6_foot_39 : decode cX6_foot 39 = .ok (.iconst 0, 1) := by decide +kernel
theorem dX6_foot_40 : decode cX6_foot 40 = .ok (.ireturn, 1) := by decide +kernel
theorem dX6_foot_41 : decode cX6_foot 41 = .ok (.aload_n 0, 1) := by decide +kernel
theorem dX6_foot_42 : decode cX6_foot 42 = .ok (.getfield 25, 3) := by decide +kernel
theorem dX6_foot_45 : decode cX6_foot 45 = .ok (.aload_n 0, 1) := by decide +kernel
theorem dX6_foot_46 : decode cX6_foot 46 = .ok (.getfield 68, 3) := by decide +kernel
theorem dX6_foot_49 : decode cX6_foot 49 = .ok (.lload_n 1, 1) := by decide +kernel
theorem dX6_foot_50 : decode cX6_foot 50 = .ok (.lastore, 1) := by decide +kernel
theorem dX6_foot_51 : decode cX6_foot 51 = .ok (.aload_n 0, 1) := by decide +kernel
theorem dX6_foot_52 : decode cX6_foot 52 = .ok (.getfield 28, 3) := by decide +kernel
theorem dX6_foot_55 : decode cX6_foot 55 = .ok (.aload_n 0, 1) := by decide +kernel
theorem dX6_foot_56 : decode cX6_foot 56 = .ok (.getfield 68, 3) := by decide +kernel
theorem dX6_foot_59 : decode cX6_foot 59 = .ok (.lload_n 3, 1) := by decide +kernel
theorem dX6_foot_60 : decode cX6_foot 60 = .ok (.lastore, 1) := by decide +kernel
theorem dX6_foot_61 : decode cX6_foot 61 = .ok (.aload_n 0, 1) := by decide +kernel
theorem dX6_foot_62 : decode cX6_foot 62 = .ok (.dup, 1) := by decide +kernel
theorem dX6_foot_63 : decode cX6_foot 63 = .ok (.getfield 68, 3) := by decide +kernel
theorem dX6_foot_66 : decode cX6_foot 66 = .ok (.iconst 1, 1) := by decide +kernel
theorem dX6_foot_67 : decode cX6_foot 67 = .ok (.iadd, 1) := by decide +kernel
theorem dX6_foot_68 : decode cX6_foot 68 = .ok (.putfield 68, 3) := by decide +kernel
theorem dX6_foot_71 : decode cX6_foot 71 = .ok (.aload_n 0, 1) := by decide +kernel
theorem dX6_foot_72 : decode cX6_foot 72 = .ok (.invokevirtual 71, 3) := by decide +kernel
theorem dX6_foot_75 : decode cX6_foot 75 = .ok (.iconst 1, 1) := by decide +kernel
theorem dX6_foot_76 : decode cX6_foot 76 = .ok (.ireturn, 1) := by decide +kernel
theorem dX6_drawer_0 : decode cX6_drawer 0 = .ok (.aload_n 0, 1) := by decide +kernel
theorem dX6_drawer_1 : decode cX6_drawer 1 = .ok (.iload_n 1, 1) := by decide +kernel
theorem dX6_drawer_2 : decode cX6_drawer 2 = .ok (.ifCond .lt 11, 3) := by decide +kernel
theorem dX6_drawer_5 : decode cX6_drawer 5 = .ok (.iload_n 1, 1) := by decide +kernel
theorem dX6_drawer_6 : decode cX6_drawer 6 = .ok (.aload_n 0, 1) := by decide +kernel
theorem dX6_drawer_7 : decode cX6_drawer 7 = .ok (.getfield 65, 3) := by decide +kernel
theorem dX6_drawer_10 : decode cX6_drawer 10 = .ok (.if_icmp .lt 7, 3) := by decide +kernel
theorem dX6_drawer_13 : decode cX6_drawer 13 = .ok (.iconst 1, 1) := by decide +kernel
theorem dX6_drawer_14 : decode cX6_drawer 14 = .ok (.goto 19, 3) := by decide +kernel
theorem dX6_drawer_17 : decode cX6_drawer 17 = .ok (.lload_n 2, 1) := by decide +kernel
theorem dX6_drawer_18 : decode cX6_drawer 18 = .ok (.lconst 1, 1) := by decide +kernel
theorem dX6_drawer_19 : decode cX6_drawer 19 = .ok (.ldc2_w 53, 3) := by decide +kernel
theorem dX6_drawer_22 : decode cX6_drawer 22 = .ok (.invokestatic 61, 3) := by decide +kernel
theorem dX6_drawer_25 : decode cX6_drawer 25 = .ok (.ifCond .eq 7, 3) := by decide +kernel
theorem dX6_drawer_28 : decode cX6_drawer 28 = .ok (.iconst 0, 1) := by decide +kernel
theorem dX6_drawer_29 : decode cX6_drawer 29 = .ok (.goto 4, 3) := by decide +kernel
theorem dX6_drawer_32 : decode cX6_drawer 32 = .ok (.iconst 2, 1) := by decide +kernel
theorem dX6_drawer_33 : decode cX6_drawer 33 = .ok (.putfield 47, 3) := by decide +kernel
theorem dX6_drawer_36 : decode cX6_drawer 36 = .ok (.aload_n 0, 1) := by decide +kernel
theorem dX6_drawer_37 : decode cX6_drawer 37 = .ok (.getfield 47, 3) := by decide +kernel
theorem dX6_drawer_40 : decode cX6_drawer 40 = .ok (.ifCond .gt 23, 3) := by decide +kernel
theorem dX6_drawer_43 : decode cX6_drawer 43 = .ok (.aload_n 0, 1) := by decide +kernel
theorem dX6_drawer_44 : decode cX6_drawer 44 = .ok (.getfield 74, 3) := by decide +kernel
theorem dX6_drawer_47 : decode cX6_drawer 47 = .ok (.bipush 8, 2) := by decide +kernel
theorem dX6_drawer_49 : decode cX6_drawer 49 = .ok (.if_icmp .eq 14, 3) := by decide +kernel
theorem dX6_drawer_52 : decode cX6_drawer 52 = .ok (.aload_n 0, 1) := by decide +kernel
theorem dX6_drawer_53 : decode cX6_drawer 53 = .ok (.getfield 22, 3) := by decide +kernel
theorem dX6_drawer_56 : decode cX6_drawer 56 = .ok (.iload_n 1, 1) := by decide +kernel
theorem dX6_drawer_57 : decode cX6_drawer 57 = .ok (.laload, 1) := by decide +kernel
theorem dX6_drawer_58 : decode cX6_drawer 58 = .ok (.lconst 0, 1) := by decide +kernel
theorem dX6_drawer_59 : decode cX6_drawer 59 = .ok (.lcmp, 1) := by decide +kernel
theorem dX6_drawer_60 : decode cX6_drawer 60 = .ok (.ifCond .le 5, 3) := by decide +kernel
theorem dX6_drawer_63 : decode cX6_drawer 63 = .ok (.iconst 0, 1) := by decide +kernel
theorem dX6_drawer_64 : decode cX6_drawer 64 = .ok (.ireturn, 1) := by decide +kernel
theorem dX6_drawer_65 : decode cX6_drawer 65 = .ok (.aload_n 0, 1) := by decide +kernel
theorem dX6_drawer_66 : decode cX6_drawer 66 = .ok (.getfield 22, 3) := by decide +kernel
theorem dX6_drawer_69 : decode cX6_drawer 69 = .ok (.iload_n 1, 1) := by decide +kernel
theorem dX6_drawer_70 : decode cX6_drawer 70 = .ok (.lload_n 2, 1) := by decide +kernel
theorem dX6_drawer_71 : decode cX6_drawer 71 = .ok (.lastore, 1) := by decide +kernel
theorem dX6_drawer_72 : decode cX6_drawer 72 = .ok (.aload_n 0, 1) := by decide +kernel
theorem dX6_drawer_73 : decode cX6_drawer 73 = .ok (.getfield 31, 3) := by decide +kernel
theorem dX6_drawer_76 : decode cX6_drawer 76 = .ok (.aload_n 0, 1) := by decide +kernel
theorem dX6_drawer_77 : decode cX6_drawer 77 = .ok (.getfield 74, 3) := by decide +kernel
theorem dX6_drawer_80 : decode cX6_drawer 80 = .ok (.iload_n 1, 1) := by decide +kernel
theorem dX6_drawer_81 : decode cX6_drawer 81 = .ok (.iastore, 1) := by decide +kernel
theorem dX6_drawer_82 : decode cX6_drawer 82 = .ok (.aload_n 0, 1) := by decide +kernel
theorem dX6_drawer_83 : decode cX6_drawer 83 = .ok (.dup, 1) := by decide +kernel
theorem dX6_drawer_84 : decode cX6_drawer 84 = .ok (.getfield 74, 3) := by decide +kernel
theorem dX6_drawer_87 : decode cX6_drawer 87 = .ok (.iconst 1, 1) := by decide +kernel
theorem dX6_drawer_88 : decode cX6_drawer 88 = .ok (.iadd, 1) := by decide +kernel
theorem dX6_drawer_89 : decode cX6_drawer 89 = .ok (.putfield 74, 3) := by decide +kernel
theorem dX6_drawer_92 : decode cX6_drawer 92 = .ok (.iconst 1, 1) := by decide +kernel
theorem dX6_drawer_93 : decode cX6_drawer 93 = .ok (.ireturn, 1) := by decide +kernel
theorem dX6_person_0 : decode cX6_person 0 = .ok (.aload_n 0, 1) := by decide +kernel
theorem dX6_person_1 : decode cX6_person 1 = .ok (.lload_n 1, 1) := by decide +kernel
theorem dX6_person_2 : decode cX6_person 2 = .ok (.invokestatic 55, 3) := by decide +kernel
theorem dX6_person_5 : decode cX6_person 5 = .ok (.ifCond .eq 26, 3) := by decide +kernel
theorem dX6_person_8 : decode cX6_person 8 = .ok (.lload_n 3, 1) := by decide +kernel
theorem dX6_person_9 : decode cX6_person 9 = .ok (.invokestatic 55, 3) := by decide +kernel
theorem dX6_person_12 : decode cX6_person 12 = .ok (.ifCond .eq 19, 3) := by decide +kernel
theorem dX6_person_15 : decode cX6_person 15 = .ok (.lload 5, 2) := by decide +kernel
theorem dX6_person_17 : decode cX6_person 17 = .ok (.lconst 0, 1) := by decide +kernel
theorem dX6_person_18 : decode cX6_person 18 = .ok (.ldc2_w 59, 3) := by decide +kernel
theorem dX6_person_21 : decode cX6_person 21 = .ok (.invokestatic 61, 3) := by decide +kernel
theorem dX6_person_24 : decode cX6_person 24 = .ok (.ifCond .eq 7, 3) := by decide +kernel
theorem dX6_person_27 : decode cX6_person 27 = .ok (.iconst 0, 1) := by decide +kernel
theorem dX6_person_28 : decode cX6_person 28 = .ok (.goto 4, 3) := by decide +kernel
theorem dX6_person_31 : decode cX6_person 31 = .ok (.iconst 1, 1) := by decide +kernel
theorem dX6_person_32 : decode cX6_person 32 = .ok (.putfield 47, 3) := by decide +kernel
theorem dX6_person_35 : decode cX6_person 35 = .ok (.aload_n 0, 1) := by decide +kernel
theorem dX6_person_36 : decode cX6_person 36 = .ok (.getfield 47, 3) := by decide +kernel
theorem dX6_person_39 : decode cX6_person 39 = .ok (.ifCond .gt 31, 3) := by decide +kernel
theorem dX6_person_42 : decode cX6_person 42 = .ok (.lload_n 1, 1) := by decide +kernel
theorem dX6_person_43 : decode cX6_person 43 = .ok (.aload_n 0, 1) := by decide +kernel
theorem dX6_person_44 : decode cX6_person 44 = .ok (.getfield 77, 3) := by decide +kernel
theorem dX6_person_47 : decode cX6_person 47 = .ok (.lcmp, 1) := by decide +kernel
theorem dX6_person_48 : decode cX6_person 48 = .ok (.ifCond .ne 24, 3) := by decide +kernel
theorem dX6_person_51 : decode cX6_person 51 = .ok (.lload_n 3, 1) := by decide +kernel
theorem dX6_person_52 : decode cX6_person 52 = .ok (.aload_n 0, 1) := by decide +kernel
theorem dX6_person_53 : decode cX6_person 53 = .ok (.getfield 81, 3) := by decide +kernel
theorem dX6_person_56 : decode cX6_person 56 = .ok (.lcmp, 1) := by decide +kernel
theorem dX6_person_57 : decode cX6_person 57 = .ok (.ifCond .ne 15, 3) := by decide +kernel
theorem dX6_person_60 : decode cX6_person 60 = .ok (.lload 5, 2) := by decide +kernel
theorem dX6_person_62 : decode cX6_person 62 = .ok (.aload_n 0, 1) := by decide +kernel
theorem dX6_person_63 : decode cX6_person 63 = .ok (.getfield 84, 3) := by decide +kernel
theorem dX6_person_66 : decode cX6_person 66 = .ok (.lcmp, 1) := by decide +kernel
theorem dX6_person_67 : decode cX6_person 67 = .ok (.ifCond .ne 5, 3) := by decide +kernel
theorem dX6_person_70 : decode cX6_person 70 = .ok (.iconst 0, 1) := by decide +kernel
theorem dX6_person_71 : decode cX6_person 71 = .ok (.ireturn, 1) := by decide +kernel
theorem dX6_person_72 : decode cX6_person 72 = .ok (.aload_n 0, 1) := by decide +kernel
theorem dX6_person_73 : decode cX6_person 73 = .ok (.lload_n 1, 1) := by decide +kernel
theorem dX6_person_74 : decode cX6_person 74 = .ok (.putfield 77, 3) := by decide +kernel
theorem dX6_person_77 : decode cX6_person 77 = .ok (.aload_n 0, 1) := by decide +kernel
theorem dX6_person_78 : decode cX6_person 78 = .ok (.lload_n 3, 1) := by decide +kernel
theorem dX6_person_79 : decode cX6_person 79 = .ok (.putfield 81, 3) := by decide +kernel
theorem dX6_person_82 : decode cX6_person 82 = .ok (.aload_n 0, 1) := by decide +kernel
theorem dX6_person_83 : decode cX6_person 83 = .ok (.lload 5, 2) := by decide +kernel
theorem dX6_person_85 : decode cX6_person 85 = .ok (.putfield 84, 3) := by decide +kernel
theorem dX6_person_88 : decode cX6_person 88 = .ok (.iconst 1, 1) := by decide +kernel
theorem dX6_person_89 : decode cX6_person 89 = .ok (.ireturn, 1) := by decide +kernel
theorem dX6_turn_0 : decode cX6_turn 0 = .ok (.aload_n 0, 1) := by decide +kernel
theorem dX6_turn_1 : decode cX6_turn 1 = .ok (.getfield 25, 3) := by decide +kernel
theorem dX6_turn_4 : decode cX6_turn 4 = .ok (.iload_n 2, 1) := by decide +kernel
theorem dX6_turn_5 : decode cX6_turn 5 = .ok (.laload, 1) := by decide +kernel
theorem dX6_turn_6 : decode cX6_turn 6 = .ok (.aload_n 0, 1) := by decide +kernel
theorem dX6_turn_7 : decode cX6_turn 7 = .ok (.getfield 25, 3) := by decide +kernel
theorem dX6_turn_10 : decode cX6_turn 10 = .ok (.iload_n 1, 1) := by decide +kernel
theorem dX6_turn_11 : decode cX6_turn 11 = .ok (.laload, 1) := by decide +kernel
theorem dX6_turn_12 : decode cX6_turn 12 = .ok (.lsub, 1) := by decide +kernel
theorem dX6_turn_13 : decode cX6_turn 13 = .ok (.lload 5, 2) := by decide +kernel
theorem dX6_turn_15 : decode cX6_turn 15 = .ok (.aload_n 0, 1) := by decide +kernel
theorem dX6_turn_16 : decode cX6_turn 16 = .ok (.getfield 28, 3) := by decide +kernel
theorem dX6_turn_19 : decode cX6_turn 19 = .ok (.iload_n 1, 1) := by decide +kernel
theorem dX6_turn_20 : decode cX6_turn 20 = .ok (.laload, 1) := by decide +kernel
theorem dX6_turn_21 : decode cX6_turn 21 = .ok (.lsub, 1) := by decide +kernel
theorem dX6_turn_22 : decode cX6_turn 22 = .ok (.lmul, 1) := by decide +kernel
theorem dX6_turn_23 : decode cX6_turn 23 = .ok (.aload_n 0, 1) := by decide +kernel
theorem dX6_turn_24 : decode cX6_turn 24 = .ok (.getfield 28, 3) := by decide +kernel
theorem dX6_turn_27 : decode cX6_turn 27 = .ok (.iload_n 2, 1) := by decide +kernel
theorem dX6_turn_28 : decode cX6_turn 28 = .ok (.laload, 1) := by decide +kernel
theorem dX6_turn_29 : decode cX6_turn 29 = .ok (.aload_n 0, 1) := by decide +kernel
theorem dX6_turn_30 : decode cX6_turn 30 = .ok (.getfield 28, 3) := by decide +kernel
theorem dX6_turn_33 : decode cX6_turn 33 = .ok (.iload_n 1, 1) := by decide +kernel
theorem dX6_turn_34 : decode cX6_turn 34 = .ok (.laload, 1) := by decide +kernel
theorem dX6_turn_35 : decode cX6_turn 35 = .ok (.lsub, 1) := by decide +kernel
theorem dX6_turn_36 : decode cX6_turn 36 = .ok (.lload_n 3, 1) := by decide +kernel
theorem dX6_turn_37 : decode cX6_turn 37 = .ok (.aload_n 0, 1) := by decide +kernel
theorem dX6_turn_38 : decode cX6_turn 38 = .ok (.getfield 25, 3) := by decide +kernel
theorem dX6_turn_41 : decode cX6_turn 41 = .ok (.iload_n 1, 1) := by decide +kernel
theorem dX6_turn_42 : decode cX6_turn 42 = .ok (.laload, 1) := by decide +kernel
theorem dX6_turn_43 : decode cX6_turn 43 = .ok (.lsub, 1) := by decide +kernel
theorem dX6_turn_44 : decode cX6_turn 44 = .ok (.lmul, 1) := by decide +kernel
theorem dX6_turn_45 : decode cX6_turn 45 = .ok (.lsub, 1) := by decide +kernel
theorem dX6_turn_46 : decode cX6_turn 46 = .ok (.lreturn, 1) := by decide +kernel
theorem dX6_isSide_0 : decode cX6_isSide 0 = .ok (.aload_n 0, 1) := by decide +kernel
theorem dX6_isSide_1 : decode cX6_isSide 1 = .ok (.getfield 25, 3) := by decide +kernel
theorem dX6_isSide_4 : decode cX6_isSide 4 = .ok (.iload_n 1, 1) := by decide +kernel
theorem dX6_isSide_5 : decode cX6_isSide 5 = .ok (.laload, 1) := by decide +kernel
theorem dX6_isSide_6 : decode cX6_isSide 6 = .ok (.aload_n 0, 1) := by decide +kernel
theorem dX6_isSide_7 : decode cX6_isSide 7 = .ok (.getfield 25, 3) := by decide +kernel
theorem dX6_isSide_10 : decode cX6_isSide 10 = .ok (.iload_n 2, 1) := by decide +kernel
theorem dX6_isSide_11 : decode cX6_isSide 11 = .ok (.laload, 1) := by decide +kernel
theorem dX6_isSide_12 : decode cX6_isSide 12 = .ok (.lcmp, 1) := by decide +kernel
theorem dX6_isSide_13 : decode cX6_isSide 13 = .ok (.ifCond .ne 19, 3) := by decide +kernel
theorem dX6_isSide_16 : decode cX6_isSide 16 = .ok (.aload_n 0, 1) := by decide +kernel
theorem dX6_isSide_17 : decode cX6_isSide 17 = .ok (.getfield 28, 3) := by decide +kernel
theorem dX6_isSide_20 : decode cX6_isSide 20 = .ok (.iload_n 1, 1) := by decide +kernel
theorem dX6_isSide_21 : decode cX6_isSide 21 = .ok (.laload, 1) := by decide +kernel
theorem dX6_isSide_22 : decode cX6_isSide 22 = .ok (.aload_n 0, 1) := by decide +kernel
theorem dX6_isSide_23 : decode cX6_isSide 23 = .ok (.getfield 28, 3) := by decide +kernel
theorem dX6_isSide_26 : decode cX6_isSide 26 = .ok (.iload_n 2, 1) := by decide +kernel
theorem dX6_isSide_27 : decode cX6_isSide 27 = .ok (.laload, 1) := by decide +kernel
theorem dX6_isSide_28 : decode cX6_isSide 28 = .ok (.lcmp, 1) := by decide +kernel
theorem dX6_isSide_29 : decode cX6_isSide 29 = .ok (.ifCond .eq 7, 3) := by decide +kernel
theorem dX6_isSide_32 : decode cX6_isSide 32 = .ok (.iconst 1, 1) := by decide +kernel
theorem dX6_isSide_33 : decode cX6_isSide 33 = .ok (.goto 4, 3) := by decide +kernel
theorem dX6_isSide_36 : decode cX6_isSide 36 = .ok (.iconst 0, 1) := by decide +kernel
theorem dX6_isSide_37 : decode cX6_isSide 37 = .ok (.istore_n 3, 1) := by decide +kernel
theorem dX6_isSide_38 : decode cX6_isSide 38 = .ok (.iconst 0, 1) := by decide +kernel
theorem dX6_isSide_39 : decode cX6_isSide 39 = .ok (.istore 4, 2) := by decide +kernel
theorem dX6_isSide_41 : decode cX6_isSide 41 = .ok (.iload 4, 2) := by decide +kernel
theorem dX6_isSide_43 : decode cX6_isSide 43 = .ok (.aload_n 0, 1) := by decide +kernel
theorem dX6_isSide_44 : decode cX6_isSide 44 = .ok (.getfield 68, 3) := by decide +kernel
theorem dX6_isSide_47 : decode cX6_isSide 47 = .ok (.if_icmp .ge 187, 3) := by decide +kernel
theorem dX6_isSide_50 : decode cX6_isSide 50 = .ok (.iload_n 3, 1) := by decide +kernel
theorem dX6_isSide_51 : decode cX6_isSide 51 = .ok (.ifCond .eq 183, 3) := by decide +kernel
theorem dX6_isSide_54 : decode cX6_isSide 54 = .ok (.aload_n 0, 1) := by decide +kernel
theorem dX6_isSide_55 : decode cX6_isSide 55 = .ok (.iload_n 1, 1) := by decide +kernel
theorem dX6_isSide_56 : decode cX6_isSide 56 = .ok (.iload_n 2, 1) := by decide +kernel
theorem dX6_isSide_57 : decode cX6_isSide 57 = .ok (.aload_n 0, 1) := by decide +kernel
theorem dX6_isSide_58 : decode cX6_isSide 58 = .ok (.getfield 25, 3) := by decide +kernel
theorem dX6_isSide_61 : decode cX6_isSide 61 = .ok (.iload 4, 2) := by decide +kernel
theorem dX6_isSide_63 : decode cX6_isSide 63 = .ok (.laload, 1) := by decide +kernel
theorem dX6_isSide_64 : decode cX6_isSide 64 = .ok (.aload_n 0, 1) := by decide +kernel
theorem dX6_isSide_65 : decode cX6_isSide 65 = .ok (.getfield 28, 3) := by decide +kernel
theorem dX6_isSide_68 : decode cX6_isSide 68 = .ok (.iload 4, 2) := by decide +kernel
theorem dX6_isSide_70 : decode cX6_isSide 70 = .ok (.laload, 1) := by decide +kernel
theorem dX6_isSide_71 : decode cX6_isSide 71 = .ok (.invokevirtual 87, 3) := by decide +kernel
theorem dX6_isSide_74 : decode cX6_isSide 74 = .ok (.lstore 5, 2) := by decide +kernel
theorem dX6_isSide_76 : decode cX6_isSide 76 = .ok (.aload_n 0, 1) := by decide +kernel
theorem dX6_isSide_77 : decode cX6_isSide 77 = .ok (.getfield 25, 3) := by decide +kernel
theorem dX6_isSide_80 : decode cX6_isSide 80 = .ok (.iload 4, 2) := by decide +kernel
theorem dX6_isSide_82 : decode cX6_isSide 82 = .ok (.laload, 1) := by decide +kernel
theorem dX6_isSide_83 : decode cX6_isSide 83 = .ok (.aload_n 0, 1) := by decide +kernel
theorem dX6_isSide_84 : decode cX6_isSide 84 = .ok (.getfield 25, 3) := by decide +kernel
theorem dX6_isSide_87 : decode cX6_isSide 87 = .ok (.iload_n 1, 1) := by decide +kernel
theorem dX6_isSide_88 : decode cX6_isSide 88 = .ok (.laload, 1) := by decide +kernel
theorem dX6_isSide_89 : decode cX6_isSide 89 = .ok (.lsub, 1) := by decide +kernel
theorem dX6_isSide_90 : decode cX6_isSide 90 = .ok (.aload_n 0, 1) := by decide +kernel
theorem dX6_isSide_91 : decode cX6_isSide 91 = .ok (.getfield 25, 3) := by decide +kernel
theorem dX6_isSide_94 : decode cX6_isSide 94 = .ok (.iload_n 2, 1) := by decide +kernel
theorem dX6_isSide_95 : decode cX6_isSide 95 = .ok (.laload, 1) := by decide +kernel
theorem dX6_isSide_96 : decode cX6_isSide 96 = .ok (.aload_n 0, 1) := by decide +kernel
theorem dX6_isSide_97 : decode cX6_isSide 97 = .ok (.getfield 25, 3) := by decide +kernel
theorem dX6_isSide_100 : decode cX6_isSide 100 = .ok (.iload_n 1, 1) := by decide +kernel
theorem dX6_isSide_101 : decode cX6_isSide 101 = .ok (.laload, 1) := by decide +kernel
theorem dX6_isSide_102 : decode cX6_isSide 102 = .ok (.lsub, 1) := by decide +kernel
theorem dX6_isSide_103 : decode cX6_isSide 103 = .ok (.lmul, 1) := by decide +kernel
theorem dX6_isSide_104 : decode cX6_isSide 104 = .ok (.aload_n 0, 1) := by decide +kernel
theorem dX6_isSide_105 : decode cX6_isSide 105 = .ok (.getfield 28, 3) := by decide +kernel
theorem dX6_isSide_108 : decode cX6_isSide 108 = .ok (.iload 4, 2) := by decide +kernel
theorem dX6_isSide_110 : decode cX6_isSide 110 = .ok (.laload, 1) := by decide +kernel
theorem dX6_isSide_111 : decode cX6_isSide 111 = .ok (.aload_n 0, 1) := by decide +kernel
theorem dX6_isSide_112 : decode cX6_isSide 112 = .ok (.getfield 28, 3) := by decide +kernel
theorem dX6_isSide_115 : decode cX6_isSide 115 = .ok (.iload_n 1, 1) := by decide +kernel
theorem dX6_isSide_116 : decode cX6_isSide 116 = .ok (.laload, 1) := by decide +kernel
theorem dX6_isSide_117 : decode cX6_isSide 117 = .ok (.lsub, 1) := by decide +kernel
theorem dX6_isSide_118 : decode cX6_isSide 118 = .ok (.aload_n 0, 1) := by decide +kernel
theorem dX6_isSide_119 : decode cX6_isSide 119 = .ok (.getfield 28, 3) := by decide +kernel
theorem dX6_isSide_122 : decode cX6_isSide 122 = .ok (.iload_n 2, 1) := by decide +kernel
theorem dX6_isSide_123 : decode cX6_isSide 123 = .ok (.laload, 1) := by decide +kernel
theorem dX6_isSide_124 : decode cX6_isSide 124 = .ok (.aload_n 0, 1) := by decide +kernel
theorem dX6_isSide_125 : decode cX6_isSide 125 = .ok (.getfield 28, 3) := by decide +kernel
theorem dX6_isSide_128 : decode cX6_isSide 128 = .ok (.iload_n 1, 1) := by decide +kernel
theorem dX6_isSide_129 : decode cX6_isSide 129 = .ok (.laload, 1) := by decide +kernel
theorem dX6_isSide_130 : decode cX6_isSide 130 = .ok (.lsub, 1) := by decide +kernel
theorem dX6_isSide_131 : decode cX6_isSide 131 = .ok (.lmul, 1) := by decide +kernel
theorem dX6_isSide_132 : decode cX6_isSide 132 = .ok (.ladd, 1) := by decide +kernel
theorem dX6_isSide_133 : decode cX6_isSide 133 = .ok (.lstore 7, 2) := by decide +kernel
theorem dX6_isSide_135 : decode cX6_isSide 135 = .ok (.aload_n 0, 1) := by decide +kernel
theorem dX6_isSide_136 : decode cX6_isSide 136 = .ok (.getfield 25, 3) := by decide +kernel
theorem dX6_isSide_139 : decode cX6_isSide 139 = .ok (.iload 4, 2) := by decide +kernel
theorem dX6_isSide_141 : decode cX6_isSide 141 = .ok (.laload, 1) := by decide +kernel
theorem dX6_isSide_142 : decode cX6_isSide 142 = .ok (.aload_n 0, 1) := by decide +kernel
theorem dX6_isSide_143 : decode cX6_isSide 143 = .ok (.getfield 25, 3) := by decide +kernel
theorem dX6_isSide_146 : decode cX6_isSide 146 = .ok (.iload_n 2, 1) := by decide +kernel
theorem dX6_isSide_147 : decode cX6_isSide 147 = .ok (.laload, 1) := by decide +kernel
theorem dX6_isSide_148 : decode cX6_isSide 148 = .ok (.lsub, 1) := by decide +kernel
theorem dX6_isSide_149 : decode cX6_isSide 149 = .ok (.aload_n 0, 1) := by decide +kernel
theorem dX6_isSide_150 : decode cX6_isSide 150 = .ok (.getfield 25, 3) := by decide +kernel
theorem dX6_isSide_153 : decode cX6_isSide 153 = .ok (.iload_n 1, 1) := by decide +kernel
theorem dX6_isSide_154 : decode cX6_isSide 154 = .ok (.laload, 1) := by decide +kernel
theorem dX6_isSide_155 : decode cX6_isSide 155 = .ok (.aload_n 0, 1) := by decide +kernel
theorem dX6_isSide_156 : decode cX6_isSide 156 = .ok (.getfield 25, 3) := by decide +kernel
theorem dX6_isSide_159 : decode cX6_isSide 159 = .ok (.iload_n 2, 1) := by decide +kernel
theorem dX6_isSide_160 : decode cX6_isSide 160 = .ok (.laload, 1) := by decide +kernel
theorem dX6_isSide_161 : decode cX6_isSide 161 = .ok (.lsub, 1) := by decide +kernel
theorem dX6_isSide_162 : decode cX6_isSide 162 = .ok (.lmul, 1) := by decide +kernel
theorem dX6_isSide_163 : decode cX6_isSide 163 = .ok (.aload_n 0, 1) := by decide +kernel
theorem dX6_isSide_164 : decode cX6_isSide 164 = .ok (.getfield 28, 3) := by decide +kernel
theorem dX6_isSide_167 : decode cX6_isSide 167 = .ok (.iload 4, 2) := by decide +kernel
theorem dX6_isSide_169 : decode cX6_isSide 169 = .ok (.laload, 1) := by decide +kernel
theorem dX6_isSide_170 : decode cX6_isSide 170 = .ok (.aload_n 0, 1) := by decide +kernel
theorem dX6_isSide_171 : decode cX6_isSide 171 = .ok (.getfield 28, 3) := by decide +kernel
theorem dX6_isSide_174 : decode cX6_isSide 174 = .ok (.iload_n 2, 1) := by decide +kernel
theorem dX6_isSide_175 : decode cX6_isSide 175 = .ok (.laload, 1) := by decide +kernel
theorem dX6_isSide_176 : decode cX6_isSide 176 = .ok (.lsub, 1) := by decide +kernel
theorem dX6_isSide_177 : decode cX6_isSide 177 = .ok (.aload_n 0, 1) := by decide +kernel
theorem dX6_isSide_178 : decode cX6_isSide 178 = .ok (.getfield 28, 3) := by decide +kernel
theorem dX6_isSide_181 : decode cX6_isSide 181 = .ok (.iload_n 1, 1) := by decide +kernel
theorem dX6_isSide_182 : decode cX6_isSide 182 = .ok (.laload, 1) := by decide +kernel
theorem dX6_isSide_183 : decode cX6_isSide 183 = .ok (.aload_n 0, 1) := by decide +kernel
theorem dX6_isSide_184 : decode cX6_isSide 184 = .ok (.getfield 28, 3) := by decide +kernel
theorem dX6_isSide_187 : decode cX6_isSide 187 = .ok (.iload_n 2, 1) := by decide +kernel
theorem dX6_isSide_188 : decode cX6_isSide 188 = .ok (.laload, 1) := by decide +kernel
theorem dX6_isSide_189 : decode cX6_isSide 189 = .ok (.lsub, 1) := by decide +kernel
theorem dX6_isSide_190 : decode cX6_isSide 190 = .ok (.lmul, 1) := by decide +kernel
theorem dX6_isSide_191 : decode cX6_isSide 191 = .ok (.ladd, 1) := by decide +kernel
theorem dX6_isSide_192 : decode cX6_isSide 192 = .ok (.lstore 9, 2) := by decide +kernel
theorem dX6_isSide_194 : decode cX6_isSide 194 = .ok (.lload 5, 2) := by decide +kernel
theorem dX6_isSide_196 : decode cX6_isSide 196 = .ok (.lconst 0, 1) := by decide +kernel
theorem dX6_isSide_197 : decode cX6_isSide 197 = .ok (.lcmp, 1) := by decide +kernel
theorem dX6_isSide_198 : decode cX6_isSide 198 = .ok (.ifCond .gt 24, 3) := by decide +kernel
theorem dX6_isSide_201 : decode cX6_isSide 201 = .ok (.lload 5, 2) := by decide +kernel
theorem dX6_isSide_203 : decode cX6_isSide 203 = .ok (.lconst 0, 1) := by decide +kernel
theorem dX6_isSide_204 : decode cX6_isSide 204 = .ok (.lcmp, 1) := by decide +kernel
theorem dX6_isSide_205 : decode cX6_isSide 205 = .ok (.ifCond .ne 21, 3) := by decide +kernel
theorem dX6_isSide_208 : decode cX6_isSide 208 = .ok (.lload 7, 2) := by decide +kernel
theorem dX6_isSide_210 : decode cX6_isSide 210 = .ok (.lconst 0, 1) := by decide +kernel
theorem dX6_isSide_211 : decode cX6_isSide 211 = .ok (.lcmp, 1) := by decide +kernel
theorem dX6_isSide_212 : decode cX6_isSide 212 = .ok (.ifCond .lt 14, 3) := by decide +kernel
theorem dX6_isSide_215 : decode cX6_isSide 215 = .ok (.lload 9, 2) := by decide +kernel
theorem dX6_isSide_217 : decode cX6_isSide 217 = .ok (.lconst 0, 1) := by decide +kernel
theorem dX6_isSide_218 : decode cX6_isSide 218 = .ok (.lcmp, 1) := by decide +kernel
theorem dX6_isSide_219 : decode cX6_isSide 219 = .ok (.ifCond .lt 7, 3) := by decide +kernel
theorem dX6_isSide_222 : decode cX6_isSide 222 = .ok (.iconst 1, 1) := by decide +kernel
theorem dX6_isSide_223 : decode cX6_isSide 223 = .ok (.goto 4, 3) := by decide +kernel
theorem dX6_isSide_226 : decode cX6_isSide 226 = .ok (.iconst 0, 1) := by decide +kernel
theorem dX6_isSide_227 : decode cX6_isSide 227 = .ok (.istore_n 3, 1) := by decide +kernel
theorem dX6_isSide_228 : decode cX6_isSide 228 = .ok (.iinc 4 1, 3) := by decide +kernel
theorem dX6_isSide_231 : decode cX6_isSide 231 = .ok (.goto (-190), 3) := by decide +kernel
theorem dX6_isSide_234 : decode cX6_isSide 234 = .ok (.iload_n 3, 1) := by decide +kernel
theorem dX6_isSide_235 : decode cX6_isSide 235 = .ok (.ireturn, 1) := by decide +kernel
theorem dX6_next_0 : decode cX6_next 0 = .ok (.iconst 0, 1) := by decide +kernel
theorem dX6_next_1 : decode cX6_next 1 = .ok (.istore_n 2, 1) := by decide +kernel
theorem dX6_next_2 : decode cX6_next 2 = .ok (.iload_n 2, 1) := by decide +kernel
theorem dX6_next_3 : decode cX6_next 3 = .ok (.aload_n 0, 1) := by decide +kernel
theorem dX6_next_4 : decode cX6_next 4 = .ok (.getfield 68, 3) := by decide +kernel
theorem dX6_next_7 : decode cX6_next 7 = .ok (.if_icmp .ge 20, 3) := by decide +kernel
theorem dX6_next_10 : decode cX6_next 10 = .ok (.aload_n 0, 1) := by decide +kernel
theorem dX6_next_11 : decode cX6_next 11 = .ok (.iload_n 1, 1) := by decide +kernel
theorem dX6_next_12 : decode cX6_next 12 = .ok (.iload_n 2, 1) := by decide +kernel
theorem dX6_next_13 : decode cX6_next 13 = .ok (.invokevirtual 91, 3) := by decide +kernel
theorem dX6_next_16 : decode cX6_next 16 = .ok (.ifCond .eq 5, 3) := by decide +kernel
theorem dX6_next_19 : decode cX6_next 19 = .ok (.iload_n 2, 1) := by decide +kernel
theorem dX6_next_20 : decode cX6_next 20 = .ok (.ireturn, 1) := by decide +kernel
theorem dX6_next_21 : decode cX6_next 21 = .ok (.iinc 2 1, 3) := by decide +kernel
theorem dX6_next_24 : decode cX6_next 24 = .ok (.goto (-22), 3) := by decide +kernel
theorem dX6_next_27 : decode cX6_next 27 = .ok (.iload_n 1, 1) := by decide +kernel
theorem dX6_next_28 : decode cX6_next 28 = .ok (.ireturn, 1) := by decide +kernel
theorem dX6_wind_0 : decode cX6_wind 0 = .ok (.iconst 0, 1) := by decide +kernel
theorem dX6_wind_1 : decode cX6_wind 1 = .ok (.istore_n 1, 1) := by decide +kernel
theorem dX6_wind_2 : decode cX6_wind 2 = .ok (.iconst 1, 1) := by decide +kernel
theorem dX6_wind_3 : decode cX6_wind 3 = .ok (.istore_n 2, 1) := by decide +kernel
theorem dX6_wind_4 : decode cX6_wind 4 = .ok (.iload_n 2, 1) := by decide +kernel
theorem dX6_wind_5 : decode cX6_wind 5 = .ok (.aload_n 0, 1) := by decide +kernel
theorem dX6_wind_6 : decode cX6_wind 6 = .ok (.getfield 68, 3) := by decide +kernel
theorem dX6_wind_9 : decode cX6_wind 9 = .ok (.if_icmp .ge 63, 3) := by decide +kernel
theorem dX6_wind_12 : decode cX6_wind 12 = .ok (.aload_n 0, 1) := by decide +kernel
theorem dX6_wind_13 : decode cX6_wind 13 = .ok (.getfield 25, 3) := by decide +kernel
theorem dX6_wind_16 : decode cX6_wind 16 = .ok (.iload_n 2, 1) := by decide +kernel
theorem dX6_wind_17 : decode cX6_wind 17 = .ok (.laload, 1) := by decide +kernel
theorem dX6_wind_18 : decode cX6_wind 18 = .ok (.aload_n 0, 1) := by decide +kernel
theorem dX6_wind_19 : decode cX6_wind 19 = .ok (.getfield 25, 3) := by decide +kernel
theorem dX6_wind_22 : decode cX6_wind 22 = .ok (.iload_n 1, 1) := by decide +kernel
theorem dX6_wind_23 : decode cX6_wind 23 = .ok (.laload, 1) := by decide +kernel
theorem dX6_wind_24 : decode cX6_wind 24 = .ok (.lcmp, 1) := by decide +kernel
theorem dX6_wind_25 : decode cX6_wind 25 = .ok (.ifCond .lt 35, 3) := by decide +kernel
theorem dX6_wind_28 : decode cX6_wind 28 = .ok (.aload_n 0, 1) := by decide +kernel
theorem dX6_wind_29 : decode cX6_wind 29 = .ok (.getfield 25, 3) := by decide +kernel
theorem dX6_wind_32 : decode cX6_wind 32 = .ok (.iload_n 2, 1) := by decide +kernel
theorem dX6_wind_33 : decode cX6_wind 33 = .ok (.laload, 1) := by decide +kernel
theorem dX6_wind_34 : decode cX6_wind 34 = .ok (.aload_n 0, 1) := by decide +kernel
theorem dX6_wind_35 : decode cX6_wind 35 = .ok (.getfield 25, 3) := by decide +kernel
theorem dX6_wind_38 : decode cX6_wind 38 = .ok (.iload_n 1, 1) := by decide +kernel
theorem dX6_wind_39 : decode cX6_wind 39 = .ok (.laload, 1) := by decide +kernel
theorem dX6_wind_40 : decode cX6_wind 40 = .ok (.lcmp, 1) := by decide +kernel
theorem dX6_wind_41 : decode cX6_wind 41 = .ok (.ifCond .ne 23, 3) := by decide +kernel
theorem dX6_wind_44 : decode cX6_wind 44 = .ok (.aload_n 0, 1) := by decide +kernel
theorem dX6_wind_45 : decode cX6_wind 45 = .ok (.getfield 28, 3) := by decide +kernel
theorem dX6_wind_48 : decode cX6_wind 48 = .ok (.iload_n 2, 1) := by decide +kernel
theorem dX6_wind_49 : decode cX6_wind 49 = .ok (.laload, 1) := by decide +kernel
theorem dX6_wind_50 : decode cX6_wind 50 = .ok (.aload_n 0, 1) := by decide +kernel
theorem dX6_wind_51 : decode cX6_wind 51 = .ok (.getfield 28, 3) := by decide +kernel
theorem dX6_wind_54 : decode cX6_wind 54 = .ok (.iload_n 1, 1) := by decide +kernel
theorem dX6_wind_55 : decode cX6_wind 55 = .ok (.laload, 1) := by decide +kernel
theorem dX6_wind_56 : decode cX6_wind 56 = .ok (.lcmp, 1) := by decide +kernel
theorem dX6_wind_57 : decode cX6_wind 57 = .ok (.ifCond .ge 7, 3) := by decide +kernel
theorem dX6_wind_60 : decode cX6_wind 60 = .ok (.iload_n 2, 1) := by decide +kernel
theorem dX6_wind_61 : decode cX6_wind 61 = .ok (.goto 4, 3) := by decide +kernel
theorem dX6_wind_64 : decode cX6_wind 64 = .ok (.iload_n 1, 1) := by decide +kernel
theorem dX6_wind_65 : decode cX6_wind 65 = .ok (.istore_n 1, 1) := by decide +kernel
theorem dX6_wind_66 : decode cX6_wind 66 = .ok (.iinc 2 1, 3) := by decide +kernel
theorem dX6_wind_69 : decode cX6_wind 69 = .ok (.goto (-65), 3) := by decide +kernel
theorem dX6_wind_72 : decode cX6_wind 72 = .ok (.aload_n 0, 1) := by decide +kernel
theorem dX6_wind_73 : decode cX6_wind 73 = .ok (.iconst 0, 1) := by decide +kernel
theorem dX6_wind_74 : decode cX6_wind 74 = .ok (.putfield 95, 3) := by decide +kernel
theorem dX6_wind_77 : decode cX6_wind 77 = .ok (.iload_n 1, 1) := by decide +kernel
theorem dX6_wind_78 : decode cX6_wind 78 = .ok (.istore_n 2, 1) := by decide +kernel
theorem dX6_wind_79 : decode cX6_wind 79 = .ok (.iconst 1, 1) := by decide +kernel
theorem dX6_wind_80 : decode cX6_wind 80 = .ok (.istore_n 3, 1) := by decide +kernel
theorem dX6_wind_81 : decode cX6_wind 81 = .ok (.iload_n 3, 1) := by decide +kernel
theorem dX6_wind_82 : decode cX6_wind 82 = .ok (.ifCond .eq 43, 3) := by decide +kernel
theorem dX6_wind_85 : decode cX6_wind 85 = .ok (.aload_n 0, 1) := by decide +kernel
theorem dX6_wind_86 : decode cX6_wind 86 = .ok (.getfield 35, 3) := by decide +kernel
theorem dX6_wind_89 : decode cX6_wind 89 = .ok (.aload_n 0, 1) := by decide +kernel
theorem dX6_wind_90 : decode cX6_wind 90 = .ok (.getfield 95, 3) := by decide +kernel
theorem dX6_wind_93 : decode cX6_wind 93 = .ok (.iload_n 2, 1) := by decide +kernel
theorem dX6_wind_94 : decode cX6_wind 94 = .ok (.iastore, 1) := by decide +kernel
theorem dX6_wind_95 : decode cX6_wind 95 = .ok (.aload_n 0, 1) := by decide +kernel
theorem dX6_wind_96 : decode cX6_wind 96 = .ok (.dup, 1) := by decide +kernel
theorem dX6_wind_97 : decode cX6_wind 97 = .ok (.getfield 95, 3) := by decide +kernel
theorem dX6_wind_100 : decode cX6_wind 100 = .ok (.iconst 1, 1) := by decide +kernel
theorem dX6_wind_101 : decode cX6_wind 101 = .ok (.iadd, 1) := by decide +kernel
theorem dX6_wind_102 : decode cX6_wind 102 = .ok (.putfield 95, 3) := by decide +kernel
theorem dX6_wind_105 : decode cX6_wind 105 = .ok (.aload_n 0, 1) := by decide +kernel
theorem dX6_wind_106 : decode cX6_wind 106 = .ok (.iload_n 2, 1) := by decide +kernel
theorem dX6_wind_107 : decode cX6_wind 107 = .ok (.invokevirtual 98, 3) := by decide +kernel
theorem dX6_wind_110 : decode cX6_wind 110 = .ok (.istore_n 2, 1) := by decide +kernel
theorem dX6_wind_111 : decode cX6_wind 111 = .ok (.iload_n 2, 1) := by decide +kernel
theorem dX6_wind_112 : decode cX6_wind 112 = .ok (.iload_n 1, 1) := by decide +kernel
theorem dX6_wind_113 : decode cX6_wind 113 = .ok (.if_icmp .eq 7, 3) := by decide +kernel
theorem dX6_wind_116 : decode cX6_wind 116 = .ok (.iconst 1, 1) := by decide +kernel
theorem dX6_wind_117 : decode cX6_wind 117 = .ok (.goto 4, 3) := by decide +kernel
theorem dX6_wind_120 : decode cX6_wind 120 = .ok (.iconst 0, 1) := by decide +kernel
theorem dX6_wind_121 : decode cX6_wind 121 = .ok (.istore_n 3, 1) := by decide +kernel
theorem dX6_wind_122 : decode cX6_wind 122 = .ok (.goto (-41), 3) := by decide +kernel
theorem dX6_wind_125 : decode cX6_wind 125 = .ok (.return_, 1) := by decide +kernel
theorem dX6_noPolygon_0 : decode cX6_noPolygon 0 = .ok (.aload_n 0, 1) := by decide +kernel
theorem dX6_noPolygon_1 : decode cX6_noPolygon 1 = .ok (.aload_n 0, 1) := by decide +kernel
theorem dX6_noPolygon_2 : decode cX6_noPolygon 2 = .ok (.getfield 95, 3) := by decide +kernel
theorem dX6_noPolygon_5 : decode cX6_noPolygon 5 = .ok (.iconst 3, 1) := by decide +kernel
theorem dX6_noPolygon_6 : decode cX6_noPolygon 6 = .ok (.if_icmp .ge 7, 3) := by decide +kernel
theorem dX6_noPolygon_9 : decode cX6_noPolygon 9 = .ok (.iconst 1, 1) := by decide +kernel
theorem dX6_noPolygon_10 : decode cX6_noPolygon 10 = .ok (.goto 4, 3) := by decide +kernel
theorem dX6_noPolygon_13 : decode cX6_noPolygon 13 = .ok (.iconst 0, 1) := by decide +kernel
theorem dX6_noPolygon_14 : decode cX6_noPolygon 14 = .ok (.putfield 47, 3) := by decide +kernel
theorem dX6_noPolygon_17 : decode cX6_noPolygon 17 = .ok (.aload_n 0, 1) := by decide +kernel
theorem dX6_noPolygon_18 : decode cX6_noPolygon 18 = .ok (.getfield 47, 3) := by decide +kernel
theorem dX6_noPolygon_21 : decode cX6_noPolygon 21 = .ok (.ifCond .le 7, 3) := by decide +kernel
theorem dX6_noPolygon_24 : decode cX6_noPolygon 24 = .ok (.iconst 1, 1) := by decide +kernel
theorem dX6_noPolygon_25 : decode cX6_noPolygon 25 = .ok (.goto 4, 3) := by decide +kernel
theorem dX6_noPolygon_28 : decode cX6_noPolygon 28 = .ok (.iconst 0, 1) := by decide +kernel
theorem dX6_noPolygon_29 : decode cX6_noPolygon 29 = .ok (.ireturn, 1) := by decide +kernel
theorem dX6_common_0 : decode cX6_common 0 = .ok (.lload_n 0, 1) := by decide +kernel
theorem dX6_common_1 : decode cX6_common 1 = .ok (.lconst 0, 1) := by decide +kernel
theorem dX6_common_2 : decode cX6_common 2 = .ok (.lcmp, 1) := by decide +kernel
theorem dX6_common_3 : decode cX6_common 3 = .ok (.ifCond .ge 8, 3) := by decide +kernel
theorem dX6_common_6 : decode cX6_common 6 = .ok (.lload_n 0, 1) := by decide +kernel
theorem dX6_common_7 : decode cX6_common 7 = .ok (.lneg, 1) := by decide +kernel
theorem dX6_common_8 : decode cX6_common 8 = .ok (.goto 4, 3) := by decide +kernel
theorem dX6_common_11 : decode cX6_common 11 = .ok (.lload_n 0, 1) := by decide +kernel
theorem dX6_common_12 : decode cX6_common 12 = .ok (.lstore 4, 2) := by decide +kernel
theorem dX6_common_14 : decode cX6_common 14 = .ok (.lload_n 2, 1) := by decide +kernel
theorem dX6_common_15 : decode cX6_common 15 = .ok (.lstore 6, 2) := by decide +kernel
theorem dX6_common_17 : decode cX6_common 17 = .ok (.lload 6, 2) := by decide +kernel
theorem dX6_common_19 : decode cX6_common 19 = .ok (.lconst 0, 1) := by decide +kernel
theorem dX6_common_20 : decode cX6_common 20 = .ok (.lcmp, 1) := by decide +kernel
theorem dX6_common_21 : decode cX6_common 21 = .ok (.ifCond .eq 21, 3) := by decide +kernel
theorem dX6_common_24 : decode cX6_common 24 = .ok (.lload 4, 2) := by decide +kernel
theorem dX6_common_26 : decode cX6_common 26 = .ok (.lload 6, 2) := by decide +kernel
theorem dX6_common_28 : decode cX6_common 28 = .ok (.lrem, 1) := by decide +kernel
theorem dX6_common_29 : decode cX6_common 29 = .ok (.lstore 8, 2) := by decide +kernel
theorem dX6_common_31 : decode cX6_common 31 = .ok (.lload 6, 2) := by decide +kernel
theorem dX6_common_33 : decode cX6_common 33 = .ok (.lstore 4, 2) := by decide +kernel
theorem dX6_common_35 : decode cX6_common 35 = .ok (.lload 8, 2) := by decide +kernel
theorem dX6_common_37 : decode cX6_common 37 = .ok (.lstore 6, 2) := by decide +kernel
theorem dX6_common_39 : decode cX6_common 39 = .ok (.goto (-22), 3) := by decide +kernel
theorem dX6_common_42 : decode cX6_common 42 = .ok (.lload 4, 2) := by decide +kernel
theorem dX6_common_44 : decode cX6_common 44 = .ok (.lreturn, 1) := by decide +kernel
theorem dX6_centre_0 : decode cX6_centre 0 = .ok (.aload_n 0, 1) := by decide +kernel
theorem dX6_centre_1 : decode cX6_centre 1 = .ok (.getfield 84, 3) := by decide +kernel
theorem dX6_centre_4 : decode cX6_centre 4 = .ok (.lstore_n 3, 1) := by decide +kernel
theorem dX6_centre_5 : decode cX6_centre 5 = .ok (.iconst 0, 1) := by decide +kernel
theorem dX6_centre_6 : decode cX6_centre 6 = .ok (.istore 5, 2) := by decide +kernel
theorem dX6_centre_8 : decode cX6_centre 8 = .ok (.iload 5, 2) := by decide +kernel
theorem dX6_centre_10 : decode cX6_centre 10 = .ok (.aload_n 0, 1) := by decide +kernel
theorem dX6_centre_11 : decode cX6_centre 11 = .ok (.getfield 65, 3) := by decide +kernel
theorem dX6_centre_14 : decode cX6_centre 14 = .ok (.if_icmp .ge 19, 3) := by decide +kernel
theorem dX6_centre_17 : decode cX6_centre 17 = .ok (.lload_n 3, 1) := by decide +kernel
theorem dX6_centre_18 : decode cX6_centre 18 = .ok (.aload_n 0, 1) := by decide +kernel
theorem dX6_centre_19 : decode cX6_centre 19 = .ok (.getfield 19, 3) := by decide +kernel
theorem dX6_centre_22 : decode cX6_centre 22 = .ok (.iload 5, 2) := by decide +kernel
theorem dX6_centre_24 : decode cX6_centre 24 = .ok (.laload, 1) := by decide +kernel
theorem dX6_centre_25 : decode cX6_centre 25 = .ok (.ladd, 1) := by decide +kernel
theorem dX6_centre_26 : decode cX6_centre 26 = .ok (.lstore_n 3, 1) := by decide +kernel
theorem dX6_centre_27 : decode cX6_centre 27 = .ok (.iinc 5 1, 3) := by decide +kernel
theorem dX6_centre_30 : decode cX6_centre 30 = .ok (.goto (-22), 3) := by decide +kernel
theorem dX6_centre_33 : decode cX6_centre 33 = .ok (.aload_n 0, 1) := by decide +kernel
theorem dX6_centre_34 : decode cX6_centre 34 = .ok (.iload_n 1, 1) := by decide +kernel
theorem dX6_centre_35 : decode cX6_centre 35 = .ok (.ifCond .lt 17, 3) := by decide +kernel
theorem dX6_centre_38 : decode cX6_centre 38 = .ok (.iload_n 1, 1) := by decide +kernel
theorem dX6_centre_39 : decode cX6_centre 39 = .ok (.iconst 2, 1) := by decide +kernel
theorem dX6_centre_40 : decode cX6_centre 40 = .ok (.if_icmp .gt 12, 3) := by decide +kernel
theorem dX6_centre_43 : decode cX6_centre 43 = .ok (.iload_n 2, 1) := by decide +kernel
theorem dX6_centre_44 : decode cX6_centre 44 = .ok (.ifCond .lt 8, 3) := by decide +kernel
theorem dX6_centre_47 : decode cX6_centre 47 = .ok (.iload_n 2, 1) := by decide +kernel
theorem dX6_centre_48 : decode cX6_centre 48 = .ok (.iconst 1, 1) := by decide +kernel
theorem dX6_centre_49 : decode cX6_centre 49 = .ok (.if_icmp .le 7, 3) := by decide +kernel
theorem dX6_centre_52 : decode cX6_centre 52 = .ok (.iconst 1, 1) := by decide +kernel
theorem dX6_centre_53 : decode cX6_centre 53 = .ok (.goto 14, 3) := by decide +kernel
theorem dX6_centre_56 : decode cX6_centre 56 = .ok (.lload_n 3, 1) := by decide +kernel
theorem dX6_centre_57 : decode cX6_centre 57 = .ok (.lconst 0, 1) := by decide +kernel
theorem dX6_centre_58 : decode cX6_centre 58 = .ok (.lcmp, 1) := by decide +kernel
theorem dX6_centre_59 : decode cX6_centre 59 = .ok (.ifCond .ne 7, 3) := by decide +kernel
theorem dX6_centre_62 : decode cX6_centre 62 = .ok (.iconst 2, 1) := by decide +kernel
theorem dX6_centre_63 : decode cX6_centre 63 = .ok (.goto 4, 3) := by decide +kernel
theorem dX6_centre_66 : decode cX6_centre 66 = .ok (.iconst 0, 1) := by decide +kernel
theorem dX6_centre_67 : decode cX6_centre 67 = .ok (.putfield 47, 3) := by decide +kernel
theorem dX6_centre_70 : decode cX6_centre 70 = .ok (.aload_n 0, 1) := by decide +kernel
theorem dX6_centre_71 : decode cX6_centre 71 = .ok (.getfield 47, 3) := by decide +kernel
theorem dX6_centre_74 : decode cX6_centre 74 = .ok (.ifCond .le 5, 3) := by decide +kernel
theorem dX6_centre_77 : decode cX6_centre 77 = .ok (.lconst 0, 1) := by decide +kernel
theorem dX6_centre_78 : decode cX6_centre 78 = .ok (.lreturn, 1) := by decide +kernel
theorem dX6_centre_79 : decode cX6_centre 79 = .ok (.iload_n 1, 1) := by decide +kernel
theorem dX6_centre_80 : decode cX6_centre 80 = .ok (.ifCond .ne 15, 3) := by decide +kernel
theorem dX6_centre_83 : decode cX6_centre 83 = .ok (.aload_n 0, 1) := by decide +kernel
theorem dX6_centre_84 : decode cX6_centre 84 = .ok (.getfield 84, 3) := by decide +kernel
theorem dX6_centre_87 : decode cX6_centre 87 = .ok (.aload_n 0, 1) := by decide +kernel
theorem dX6_centre_88 : decode cX6_centre 88 = .ok (.getfield 77, 3) := by decide +kernel
theorem dX6_centre_91 : decode cX6_centre 91 = .ok (.lmul, 1) := by decide +kernel
theorem dX6_centre_92 : decode cX6_centre 92 = .ok (.goto 21, 3) := by decide +kernel
theorem dX6_centre_95 : decode cX6_centre 95 = .ok (.iload_n 1, 1) := by decide +kernel
theorem dX6_centre_96 : decode cX6_centre 96 = .ok (.iconst 1, 1) := by decide +kernel
theorem dX6_centre_97 : decode cX6_centre 97 = .ok (.if_icmp .ne 15, 3) := by decide +kernel
theorem dX6_centre_100 : decode cX6_centre 100 = .ok (.aload_n 0, 1) := by decide +kernel
theorem dX6_centre_101 : decode cX6_centre 101 = .ok (.getfield 84, 3) := by decide +kernel
theorem dX6_centre_104 : decode cX6_centre 104 = .ok (.aload_n 0, 1) := by decide +kernel
theorem dX6_centre_105 : decode cX6_centre 105 = .ok (.getfield 81, 3) := by decide +kernel
theorem dX6_centre_108 : decode cX6_centre 108 = .ok (.lmul, 1) := by decide +kernel
theorem dX6_centre_109 : decode cX6_centre 109 = .ok (.goto 4, 3) := by decide +kernel
theorem dX6_centre_112 : decode cX6_centre 112 = .ok (.lconst 0, 1) := by decide +kernel
theorem dX6_centre_113 : decode cX6_centre 113 = .ok (.lstore 5, 2) := by decide +kernel
theorem dX6_centre_115 : decode cX6_centre 115 = .ok (.iconst 0, 1) := by decide +kernel
theorem dX6_centre_116 : decode cX6_centre 116 = .ok (.istore 7, 2) := by decide +kernel
theorem dX6_centre_118 : decode cX6_centre 118 = .ok (.iload 7, 2) := by decide +kernel
theorem dX6_centre_120 : decode cX6_centre 120 = .ok (.aload_n 0, 1) := by decide +kernel
theorem dX6_centre_121 : decode cX6_centre 121 = .ok (.getfield 65, 3) := by decide +kernel
theorem dX6_centre_124 : decode cX6_centre 124 = .ok (.if_icmp .ge 58, 3) := by decide +kernel
theorem dX6_centre_127 : decode cX6_centre 127 = .ok (.lload 5, 2) := by decide +kernel
theorem dX6_centre_129 : decode cX6_centre 129 = .ok (.aload_n 0, 1) := by decide +kernel
theorem dX6_centre_130 : decode cX6_centre 130 = .ok (.getfield 19, 3) := by decide +kernel
theorem dX6_centre_133 : decode cX6_centre 133 = .ok (.iload 7, 2) := by decide +kernel
theorem dX6_centre_135 : decode cX6_centre 135 = .ok (.laload, 1) := by decide +kernel
theorem dX6_centre_136 : decode cX6_centre 136 = .ok (.iload_n 1, 1) := by decide +kernel
theorem dX6_centre_137 : decode cX6_centre 137 = .ok (.ifCond .ne 13, 3) := by decide +kernel
theorem dX6_centre_140 : decode cX6_centre 140 = .ok (.aload_n 0, 1) := by decide +kernel
theorem dX6_centre_141 : decode cX6_centre 141 = .ok (.getfield 7, 3) := by decide +kernel
theorem dX6_centre_144 : decode cX6_centre 144 = .ok (.iload 7, 2) := by decide +kernel
theorem dX6_centre_146 : decode cX6_centre 146 = .ok (.laload, 1) := by decide +kernel
theorem dX6_centre_147 : decode cX6_centre 147 = .ok (.goto 25, 3) := by decide +kernel
theorem dX6_centre_150 : decode cX6_centre 150 = .ok (.iload_n 1, 1) := by decide +kernel
theorem dX6_centre_151 : decode cX6_centre 151 = .ok (.iconst 1, 1) := by decide +kernel
theorem dX6_centre_152 : decode cX6_centre 152 = .ok (.if_icmp .ne 13, 3) := by decide +kernel
theorem dX6_centre_155 : decode cX6_centre 155 = .ok (.aload_n 0, 1) := by decide +kernel
theorem dX6_centre_156 : decode cX6_centre 156 = .ok (.getfield 13, 3) := by decide +kernel
theorem dX6_centre_159 : decode cX6_centre 159 = .ok (.iload 7, 2) := by decide +kernel
theorem dX6_centre_161 : decode cX6_centre 161 = .ok (.laload, 1) := by decide +kernel
theorem dX6_centre_162 : decode cX6_centre 162 = .ok (.goto 10, 3) := by decide +kernel
theorem dX6_centre_165 : decode cX6_centre 165 = .ok (.aload_n 0, 1) := by decide +kernel
theorem dX6_centre_166 : decode cX6_centre 166 = .ok (.getfield 16, 3) := by decide +kernel
theorem dX6_centre_169 : decode cX6_centre 169 = .ok (.iload 7, 2) := by decide +kernel
theorem dX6_centre_171 : decode cX6_centre 171 = .ok (.laload, 1) := by decide +kernel
theorem dX6_centre_172 : decode cX6_centre 172 = .ok (.lmul, 1) := by decide +kernel
theorem dX6_centre_173 : decode cX6_centre 173 = .ok (.ladd, 1) := by decide +kernel
theorem dX6_centre_174 : decode cX6_centre 174 = .ok (.lstore 5, 2) := by decide +kernel
theorem dX6_centre_176 : decode cX6_centre 176 = .ok (.iinc 7 1, 3) := by decide +kernel
theorem dX6_centre_179 : decode cX6_centre 179 = .ok (.goto (-61), 3) := by decide +kernel
theorem dX6_centre_182 : decode cX6_centre 182 = .ok (.lload 5, 2) := by decide +kernel
theorem dX6_centre_184 : decode cX6_centre 184 = .ok (.lload_n 3, 1) := by decide +kernel
theorem dX6_centre_185 : decode cX6_centre 185 = .ok (.invokestatic 102, 3) := by decide +kernel
theorem dX6_centre_188 : decode cX6_centre 188 = .ok (.lstore 7, 2) := by decide +kernel
theorem dX6_centre_190 : decode cX6_centre 190 = .ok (.iload_n 2, 1) := by decide +kernel
theorem dX6_centre_191 : decode cX6_centre 191 = .ok (.ifCond .ne 11, 3) := by decide +kernel
theorem dX6_centre_194 : decode cX6_centre 194 = .ok (.lload 5, 2) := by decide +kernel
theorem dX6_centre_196 : decode cX6_centre 196 = .ok (.lload 7, 2) := by decide +kernel
theorem dX6_centre_198 : decode cX6_centre 198 = .ok (.ldiv, 1) := by decide +kernel
theorem dX6_centre_199 : decode cX6_centre 199 = .ok (.goto 7, 3) := by decide +kernel
theorem dX6_centre_202 : decode cX6_centre 202 = .ok (.lload_n 3, 1) := by decide +kernel
theorem dX6_centre_203 : decode cX6_centre 203 = .ok (.lload 7, 2) := by decide +kernel
theorem dX6_centre_205 : decode cX6_centre 205 = .ok (.ldiv, 1) := by decide +kernel
theorem dX6_centre_206 : decode cX6_centre 206 = .ok (.lreturn, 1) := by decide +kernel
theorem dX6_isOut_0 : decode cX6_isOut 0 = .ok (.iconst 0, 1) := by decide +kernel
theorem dX6_isOut_1 : decode cX6_isOut 1 = .ok (.istore_n 3, 1) := by decide +kernel
theorem dX6_isOut_2 : decode cX6_isOut 2 = .ok (.iconst 0, 1) := by decide +kernel
theorem dX6_isOut_3 : decode cX6_isOut 3 = .ok (.istore 4, 2) := by decide +kernel
theorem dX6_isOut_5 : decode cX6_isOut 5 = .ok (.iload 4, 2) := by decide +kernel
theorem dX6_isOut_7 : decode cX6_isOut 7 = .ok (.iload_n 2, 1) := by decide +kernel
theorem dX6_isOut_8 : decode cX6_isOut 8 = .ok (.if_icmp .ge 30, 3) := by decide +kernel
theorem dX6_isOut_11 : decode cX6_isOut 11 = .ok (.iload_n 3, 1) := by decide +kernel
theorem dX6_isOut_12 : decode cX6_isOut 12 = .ok (.ifCond .ne 14, 3) := by decide +kernel
theorem dX6_isOut_15 : decode cX6_isOut 15 = .ok (.aload_n 0, 1) := by decide +kernel
theorem dX6_isOut_16 : decode cX6_isOut 16 = .ok (.getfield 31, 3) := by decide +kernel
theorem dX6_isOut_19 : decode cX6_isOut 19 = .ok (.iload 4, 2) := by decide +kernel
theorem dX6_isOut_21 : decode cX6_isOut 21 = .ok (.iaload, 1) := by decide +kernel
theorem dX6_isOut_22 : decode cX6_isOut 22 = .ok (.iload_n 1, 1) := by decide +kernel
theorem dX6_isOut_23 : decode cX6_isOut 23 = .ok (.if_icmp .ne 7, 3) := by decide +kernel
theorem dX6_isOut_26 : decode cX6_isOut 26 = .ok (.iconst 1, 1) := by decide +kernel
theorem dX6_isOut_27 : decode cX6_isOut 27 = .ok (.goto 4, 3) := by decide +kernel
theorem dX6_isOut_30 : decode cX6_isOut 30 = .ok (.iconst 0, 1) := by decide +kernel
theorem dX6_isOut_31 : decode cX6_isOut 31 = .ok (.istore_n 3, 1) := by decide +kernel
theorem dX6_isOut_32 : decode cX6_isOut 32 = .ok (.iinc 4 1, 3) := by decide +kernel
theorem dX6_isOut_35 : decode cX6_isOut 35 = .ok (.goto (-30), 3) := by decide +kernel
theorem dX6_isOut_38 : decode cX6_isOut 38 = .ok (.iload_n 3, 1) := by decide +kernel
theorem dX6_isOut_39 : decode cX6_isOut 39 = .ok (.ireturn, 1) := by decide +kernel
theorem dX6_momentOf_0 : decode cX6_momentOf 0 = .ok (.aload_n 0, 1) := by decide +kernel
theorem dX6_momentOf_1 : decode cX6_momentOf 1 = .ok (.getfield 35, 3) := by decide +kernel
theorem dX6_momentOf_4 : decode cX6_momentOf 4 = .ok (.iload_n 1, 1) := by decide +kernel
theorem dX6_momentOf_5 : decode cX6_momentOf 5 = .ok (.iaload, 1) := by decide +kernel
theorem dX6_momentOf_6 : decode cX6_momentOf 6 = .ok (.istore 9, 2) := by decide +kernel
theorem dX6_momentOf_8 : decode cX6_momentOf 8 = .ok (.aload_n 0, 1) := by decide +kernel
theorem dX6_momentOf_9 : decode cX6_momentOf 9 = .ok (.getfield 35, 3) := by decide +kernel
theorem dX6_momentOf_12 : decode cX6_momentOf 12 = .ok (.iload_n 1, 1) := by decide +kernel
theorem dX6_momentOf_13 : decode cX6_momentOf 13 = .ok (.iconst 1, 1) := by decide +kernel
theorem dX6_momentOf_14 : decode cX6_momentOf 14 = .ok (.iadd, 1) := by decide +kernel
theorem dX6_momentOf_15 : decode cX6_momentOf 15 = .ok (.aload_n 0, 1) := by decide +kernel
theorem dX6_momentOf_16 : decode cX6_momentOf 16 = .ok (.getfield 95, 3) := by decide +kernel
theorem dX6_momentOf_19 : decode cX6_momentOf 19 = .ok (.if_icmp .ne 7, 3) := by decide +kernel
theorem dX6_momentOf_22 : decode cX6_momentOf 22 = .ok (.iconst 0, 1) := by decide +kernel
theorem dX6_momentOf_23 : decode cX6_momentOf 23 = .ok (.goto 6, 3) := by decide +kernel
theorem dX6_momentOf_26 : decode cX6_momentOf 26 = .ok (.iload_n 1, 1) := by decide +kernel
theorem dX6_momentOf_27 : decode cX6_momentOf 27 = .ok (.iconst 1, 1) := by decide +kernel
theorem dX6_momentOf_28 : decode cX6_momentOf 28 = .ok (.iadd, 1) := by decide +kernel
theorem dX6_momentOf_29 : decode cX6_momentOf 29 = .ok (.iaload, 1) := by decide +kernel
theorem dX6_momentOf_30 : decode cX6_momentOf 30 = .ok (.istore 10, 2) := by decide +kernel
theorem dX6_momentOf_32 : decode cX6_momentOf 32 = .ok (.lload 7, 2) := by decide +kernel
theorem dX6_momentOf_34 : decode cX6_momentOf 34 = .ok (.aload_n 0, 1) := by decide +kernel
theorem dX6_momentOf_35 : decode cX6_momentOf 35 = .ok (.iload 9, 2) := by decide +kernel
theorem dX6_momentOf_37 : decode cX6_momentOf 37 = .ok (.iload 10, 2) := by decide +kernel
theorem dX6_momentOf_39 : decode cX6_momentOf 39 = .ok (.lload_n 3, 1) := by decide +kernel
theorem dX6_momentOf_40 : decode cX6_momentOf 40 = .ok (.lload 5, 2) := by decide +kernel
theorem dX6_momentOf_42 : decode cX6_momentOf 42 = .ok (.invokevirtual 87, 3) := by decide +kernel
theorem dX6_momentOf_45 : decode cX6_momentOf 45 = .ok (.lmul, 1) := by decide +kernel
theorem dX6_momentOf_46 : decode cX6_momentOf 46 = .ok (.lstore 11, 2) := by decide +kernel
theorem dX6_momentOf_48 : decode cX6_momentOf 48 = .ok (.iconst 0, 1) := by decide +kernel
theorem dX6_momentOf_49 : decode cX6_momentOf 49 = .ok (.istore 13, 2) := by decide +kernel
theorem dX6_momentOf_51 : decode cX6_momentOf 51 = .ok (.iload 13, 2) := by decide +kernel
theorem dX6_momentOf_53 : decode cX6_momentOf 53 = .ok (.aload_n 0, 1) := by decide +kernel
theorem dX6_momentOf_54 : decode cX6_momentOf 54 = .ok (.getfield 65, 3) := by decide +kernel
theorem dX6_momentOf_57 : decode cX6_momentOf 57 = .ok (.if_icmp .ge 72, 3) := by decide +kernel
theorem dX6_momentOf_60 : decode cX6_momentOf 60 = .ok (.lload 11, 2) := by decide +kernel
theorem dX6_momentOf_62 : decode cX6_momentOf 62 = .ok (.aload_n 0, 1) := by decide +kernel
theorem dX6_momentOf_63 : decode cX6_momentOf 63 = .ok (.getfield 19, 3) := by decide +kernel
theorem dX6_momentOf_66 : decode cX6_momentOf 66 = .ok (.iload 13, 2) := by decide +kernel
theorem dX6_momentOf_68 : decode cX6_momentOf 68 = .ok (.laload, 1) := by decide +kernel
theorem dX6_momentOf_69 : decode cX6_momentOf 69 = .ok (.aload_n 0, 1) := by decide +kernel
