theorem dX0_init_0 : decode cX0_init 0 = .ok (.aload_n 0, 1) := by decide +kernel
theorem dX0_init_1 : decode cX0_init 1 = .ok (.invokespecial 3, 3) := by decide +kernel
theorem dX0_init_4 : decode cX0_init 4 = .ok (.aload_n 0, 1) := by decide +kernel
theorem dX0_init_5 : decode cX0_init 5 = .ok (.iconst 0, 1) := by decide +kernel
theorem dX0_init_6 : decode cX0_init 6 = .ok (.putfield 9, 3) := by decide +kernel
theorem dX0_init_9 : decode cX0_init 9 = .ok (.aload_n 0, 1) := by decide +kernel
theorem dX0_init_10 : decode cX0_init 10 = .ok (.iconst 0, 1) := by decide +kernel
theorem dX0_init_11 : decode cX0_init 11 = .ok (.putfield 15, 3) := by decide +kernel
theorem dX0_init_14 : decode cX0_init 14 = .ok (.aload_n 0, 1) := by decide +kernel
theorem dX0_init_15 : decode cX0_init 15 = .ok (.iconst 0, 1) := by decide +kernel
theorem dX0_init_16 : decode cX0_init 16 = .ok (.putfield 18, 3) := by decide +kernel
theorem dX0_init_19 : decode cX0_init 19 = .ok (.aload_n 0, 1) := by decide +kernel
theorem dX0_init_20 : decode cX0_init 20 = .ok (.bipush (-4), 2) := by decide +kernel
theorem dX0_init_22 : decode cX0_init 22 = .ok (.putfield 21, 3) := by decide +kernel
theorem dX0_init_25 : decode cX0_init 25 = .ok (.aload_n 0, 1) := by decide +kernel
theorem dX0_init_26 : decode cX0_init 26 = .ok (.aload_n 1, 1) := by decide +kernel
theorem dX0_init_27 : decode cX0_init 27 = .ok (.putfield 24, 3) := by decide +kernel
theorem dX0_init_30 : decode cX0_init 30 = .ok (.return_, 1) := by decide +kernel
theorem dX0_put_0 : decode cX0_put 0 = .ok (.aload_n 0, 1) := by decide +kernel
theorem dX0_put_1 : decode cX0_put 1 = .ok (.iload_n 1, 1) := by decide +kernel
theorem dX0_put_2 : decode cX0_put 2 = .ok (.putfield 9, 3) := by decide +kernel
theorem dX0_put_5 : decode cX0_put 5 = .ok (.aload_n 0, 1) := by decide +kernel
theorem dX0_put_6 : decode cX0_put 6 = .ok (.iload_n 2, 1) := by decide +kernel
theorem dX0_put_7 : decode cX0_put 7 = .ok (.putfield 15, 3) := by decide +kernel
theorem dX0_put_10 : decode cX0_put 10 = .ok (.aload_n 0, 1) := by decide +kernel
theorem dX0_put_11 : decode cX0_put 11 = .ok (.iload_n 3, 1) := by decide +kernel
theorem dX0_put_12 : decode cX0_put 12 = .ok (.putfield 18, 3) := by decide +kernel
theorem dX0_put_15 : decode cX0_put 15 = .ok (.aload_n 0, 1) := by decide +kernel
theorem dX0_put_16 : decode cX0_put 16 = .ok (.bipush (-4), 2) := by decide +kernel
theorem dX0_put_18 : decode cX0_put 18 = .ok (.putfield 21, 3) := by decide +kernel
theorem dX0_put_21 : decode cX0_put 21 = .ok (.return_, 1) := by decide +kernel
theorem dX0_take_0 : decode cX0_take 0 = .ok (.aload_n 0, 1) := by decide +kernel
theorem dX0_take_1 : decode cX0_take 1 = .ok (.aload_n 0, 1) := by decide +kernel
theorem dX0_take_2 : decode cX0_take 2 = .ok (.getfield 24, 3) := by decide +kernel
theorem dX0_take_5 : decode cX0_take 5 = .ok (.getfield 28, 3) := by decide +kernel
theorem dX0_take_8 : decode cX0_take 8 = .ok (.getfield 34, 3) := by decide +kernel
theorem dX0_take_11 : decode cX0_take 11 = .ok (.iload_n 1, 1) := by decide +kernel
theorem dX0_take_12 : decode cX0_take 12 = .ok (.iaload, 1) := by decide +kernel
theorem dX0_take_13 : decode cX0_take 13 = .ok (.aload_n 0, 1) := by decide +kernel
theorem dX0_take_14 : decode cX0_take 14 = .ok (.getfield 24, 3) := by decide +kernel
theorem dX0_take_17 : decode cX0_take 17 = .ok (.getfield 28, 3) := by decide +kernel
theorem dX0_take_20 : decode cX0_take 20 = .ok (.getfield 40, 3) := by decide +kernel
theorem dX0_take_23 : decode cX0_take 23 = .ok (.iload_n 1, 1) := by decide +kernel
theorem dX0_take_24 : decode cX0_take 24 = .ok (.iaload, 1) := by decide +kernel
theorem dX0_take_25 : decode cX0_take 25 = .ok (.aload_n 0, 1) := by decide +kernel
theorem dX0_take_26 : decode cX0_take 26 = .ok (.getfield 24, 3) := by decide +kernel
theorem dX0_take_29 : decode cX0_take 29 = .ok (.getfield 28, 3) := by decide +kernel
theorem dX0_take_32 : decode cX0_take 32 = .ok (.getfield 43, 3) := by decide +kernel
theorem dX0_take_35 : decode cX0_take 35 = .ok (.iload_n 1, 1) := by decide +kernel
theorem dX0_take_36 : decode cX0_take 36 = .ok (.iaload, 1) := by decide +kernel
theorem dX0_take_37 : decode cX0_take 37 = .ok (.invokevirtual 46, 3) := by decide +kernel
theorem dX0_take_40 : decode cX0_take 40 = .ok (.aload_n 0, 1) := by decide +kernel
theorem dX0_take_41 : decode cX0_take 41 = .ok (.aload_n 0, 1) := by decide +kernel
theorem dX0_take_42 : decode cX0_take 42 = .ok (.getfield 24, 3) := by decide +kernel
theorem dX0_take_45 : decode cX0_take 45 = .ok (.getfield 28, 3) := by decide +kernel
theorem dX0_take_48 : decode cX0_take 48 = .ok (.getfield 50, 3) := by decide +kernel
theorem dX0_take_51 : decode cX0_take 51 = .ok (.iload_n 1, 1) := by decide +kernel
theorem dX0_take_52 : decode cX0_take 52 = .ok (.iaload, 1) := by decide +kernel
theorem dX0_take_53 : decode cX0_take 53 = .ok (.putfield 21, 3) := by decide +kernel
theorem dX0_take_56 : decode cX0_take 56 = .ok (.return_, 1) := by decide +kernel
theorem dX0_give_0 : decode cX0_give 0 = .ok (.aload_n 0, 1) := by decide +kernel
theorem dX0_give_1 : decode cX0_give 1 = .ok (.getfield 24, 3) := by decide +kernel
theorem dX0_give_4 : decode cX0_give 4 = .ok (.getfield 28, 3) := by decide +kernel
theorem dX0_give_7 : decode cX0_give 7 = .ok (.getfield 34, 3) := by decide +kernel
theorem dX0_give_10 : decode cX0_give 10 = .ok (.iload_n 1, 1) := by decide +kernel
theorem dX0_give_11 : decode cX0_give 11 = .ok (.aload_n 0, 1) := by decide +kernel
theorem dX0_give_12 : decode cX0_give 12 = .ok (.getfield 9, 3) := by decide +kernel
theorem dX0_give_15 : decode cX0_give 15 = .ok (.iastore, 1) := by decide +kernel
theorem dX0_give_16 : decode cX0_give 16 = .ok (.aload_n 0, 1) := by decide +kernel
theorem dX0_give_17 : decode cX0_give 17 = .ok (.getfield 24, 3) := by decide +kernel
theorem dX0_give_20 : decode cX0_give 20 = .ok (.getfield 28, 3) := by decide +kernel
theorem dX0_give_23 : decode cX0_give 23 = .ok (.getfield 40, 3) := by decide +kernel
theorem dX0_give_26 : decode cX0_give 26 = .ok (.iload_n 1, 1) := by decide +kernel
theorem dX0_give_27 : decode cX0_give 27 = .ok (.aload_n 0, 1) := by decide +kernel
theorem dX0_give_28 : decode cX0_give 28 = .ok (.getfield 15, 3) := by decide +kernel
theorem dX0_give_31 : decode cX0_give 31 = .ok (.iastore, 1) := by decide +kernel
theorem dX0_give_32 : decode cX0_give 32 = .ok (.aload_n 0, 1) := by decide +kernel
theorem dX0_give_33 : decode cX0_give 33 = .ok (.getfield 24, 3) := by decide +kernel
theorem dX0_give_36 : decode cX0_give 36 = .ok (.getfield 28, 3) := by decide +kernel
theorem dX0_give_39 : decode cX0_give 39 = .ok (.getfield 50, 3) := by decide +kernel
theorem dX0_give_42 : decode cX0_give 42 = .ok (.iload_n 1, 1) := by decide +kernel
theorem dX0_give_43 : decode cX0_give 43 = .ok (.aload_n 0, 1) := by decide +kernel
theorem dX0_give_44 : decode cX0_give 44 = .ok (.getfield 21, 3) := by decide +kernel
theorem dX0_give_47 : decode cX0_give 47 = .ok (.iastore, 1) := by decide +kernel
theorem dX0_give_48 : decode cX0_give 48 = .ok (.return_, 1) := by decide +kernel
theorem dX0_isWhere_0 : decode cX0_isWhere 0 = .ok (.aload_n 0, 1) := by decide +kernel
theorem dX0_isWhere_1 : decode cX0_isWhere 1 = .ok (.getfield 9, 3) := by decide +kernel
theorem dX0_isWhere_4 : decode cX0_isWhere 4 = .ok (.iload_n 1, 1) := by decide +kernel
theorem dX0_isWhere_5 : decode cX0_isWhere 5 = .ok (.if_icmp .ne 15, 3) := by decide +kernel
theorem dX0_isWhere_8 : decode cX0_isWhere 8 = .ok (.aload_n 0, 1) := by decide +kernel
theorem dX0_isWhere_9 : decode cX0_isWhere 9 = .ok (.getfield 15, 3) := by decide +kernel
theorem dX0_isWhere_12 : decode cX0_isWhere 12 = .ok (.iload_n 2, 1) := by decide +kernel
theorem dX0_isWhere_13 : decode cX0_isWhere 13 = .ok (.if_icmp .ne 7, 3) := by decide +kernel
theorem dX0_isWhere_16 : decode cX0_isWhere 16 = .ok (.iconst 1, 1) := by decide +kernel
theorem dX0_isWhere_17 : decode cX0_isWhere 17 = .ok (.goto 4, 3) := by decide +kernel
theorem dX0_isWhere_20 : decode cX0_isWhere 20 = .ok (.iconst 0, 1) := by decide +kernel
theorem dX0_isWhere_21 : decode cX0_isWhere 21 = .ok (.ireturn, 1) := by decide +kernel
theorem dX0_flow_0 : decode cX0_flow 0 = .ok (.aload_n 0, 1) := by decide +kernel
theorem dX0_flow_1 : decode cX0_flow 1 = .ok (.getfield 24, 3) := by decide +kernel
theorem dX0_flow_4 : decode cX0_flow 4 = .ok (.aload_n 0, 1) := by decide +kernel
theorem dX0_flow_5 : decode cX0_flow 5 = .ok (.getfield 9, 3) := by decide +kernel
theorem dX0_flow_8 : decode cX0_flow 8 = .ok (.invokevirtual 53, 3) := by decide +kernel
theorem dX0_flow_11 : decode cX0_flow 11 = .ok (.ifCond .ne 4, 3) := by decide +kernel
theorem dX0_flow_14 : decode cX0_flow 14 = .ok (.return_, 1) := by decide +kernel
theorem dX0_flow_15 : decode cX0_flow 15 = .ok (.aload_n 0, 1) := by decide +kernel
theorem dX0_flow_16 : decode cX0_flow 16 = .ok (.getfield 24, 3) := by decide +kernel
theorem dX0_flow_19 : decode cX0_flow 19 = .ok (.getfield 57, 3) := by decide +kernel
theorem dX0_flow_22 : decode cX0_flow 22 = .ok (.getfield 61, 3) := by decide +kernel
theorem dX0_flow_25 : decode cX0_flow 25 = .ok (.aload_n 0, 1) := by decide +kernel
theorem dX0_flow_26 : decode cX0_flow 26 = .ok (.getfield 9, 3) := by decide +kernel
theorem dX0_flow_29 : decode cX0_flow 29 = .ok (.iaload, 1) := by decide +kernel
theorem dX0_flow_30 : decode cX0_flow 30 = .ok (.istore_n 1, 1) := by decide +kernel
theorem dX0_flow_31 : decode cX0_flow 31 = .ok (.aload_n 0, 1) := by decide +kernel
theorem dX0_flow_32 : decode cX0_flow 32 = .ok (.aload_n 0, 1) := by decide +kernel
theorem dX0_flow_33 : decode cX0_flow 33 = .ok (.getfield 24, 3) := by decide +kernel
theorem dX0_flow_36 : decode cX0_flow 36 = .ok (.getfield 57, 3) := by decide +kernel
theorem dX0_flow_39 : decode cX0_flow 39 = .ok (.aload_n 0, 1) := by decide +kernel
theorem dX0_flow_40 : decode cX0_flow 40 = .ok (.getfield 15, 3) := by decide +kernel
theorem dX0_flow_43 : decode cX0_flow 43 = .ok (.aload_n 0, 1) := by decide +kernel
theorem dX0_flow_44 : decode cX0_flow 44 = .ok (.getfield 24, 3) := by decide +kernel
theorem dX0_flow_47 : decode cX0_flow 47 = .ok (.getfield 57, 3) := by decide +kernel
theorem dX0_flow_50 : decode cX0_flow 50 = .ok (.getfield 66, 3) := by decide +kernel
theorem dX0_flow_53 : decode cX0_flow 53 = .ok (.aload_n 0, 1) := by decide +kernel
theorem dX0_flow_54 : decode cX0_flow 54 = .ok (.getfield 9, 3) := by decide +kernel
theorem dX0_flow_57 : decode cX0_flow 57 = .ok (.iaload, 1) := by decide +kernel
theorem dX0_flow_58 : decode cX0_flow 58 = .ok (.iadd, 1) := by decide +kernel
theorem dX0_flow_59 : decode cX0_flow 59 = .ok (.iconst 3, 1) := by decide +kernel
theorem dX0_flow_60 : decode cX0_flow 60 = .ok (.isub, 1) := by decide +kernel
theorem dX0_flow_61 : decode cX0_flow 61 = .ok (.invokevirtual 69, 3) := by decide +kernel
theorem dX0_flow_64 : decode cX0_flow 64 = .ok (.putfield 15, 3) := by decide +kernel
theorem dX0_flow_67 : decode cX0_flow 67 = .ok (.aload_n 0, 1) := by decide +kernel
theorem dX0_flow_68 : decode cX0_flow 68 = .ok (.getfield 18, 3) := by decide +kernel
theorem dX0_flow_71 : decode cX0_flow 71 = .ok (.iload_n 1, 1) := by decide +kernel
theorem dX0_flow_72 : decode cX0_flow 72 = .ok (.if_icmp .le 32, 3) := by decide +kernel
theorem dX0_flow_75 : decode cX0_flow 75 = .ok (.aload_n 0, 1) := by decide +kernel
theorem dX0_flow_76 : decode cX0_flow 76 = .ok (.getfield 24, 3) := by decide +kernel
theorem dX0_flow_79 : decode cX0_flow 79 = .ok (.aload_n 0, 1) := by decide +kernel
theorem dX0_flow_80 : decode cX0_flow 80 = .ok (.getfield 9, 3) := by decide +kernel
theorem dX0_flow_83 : decode cX0_flow 83 = .ok (.iconst 1, 1) := by decide +kernel
theorem dX0_flow_84 : decode cX0_flow 84 = .ok (.iadd, 1) := by decide +kernel
theorem dX0_flow_85 : decode cX0_flow 85 = .ok (.invokevirtual 53, 3) := by decide +kernel
theorem dX0_flow_88 : decode cX0_flow 88 = .ok (.ifCond .eq 16, 3) := by decide +kernel
theorem dX0_flow_91 : decode cX0_flow 91 = .ok (.aload_n 0, 1) := by decide +kernel
theorem dX0_flow_92 : decode cX0_flow 92 = .ok (.dup, 1) := by decide +kernel
theorem dX0_flow_93 : decode cX0_flow 93 = .ok (.getfield 9, 3) := by decide +kernel
theorem dX0_flow_96 : decode cX0_flow 96 = .ok (.iconst 1, 1) := by decide +kernel
theorem dX0_flow_97 : decode cX0_flow 97 = .ok (.iadd, 1) := by decide +kernel
theorem dX0_flow_98 : decode cX0_flow 98 = .ok (.putfield 9, 3) := by decide +kernel
theorem dX0_flow_101 : decode cX0_flow 101 = .ok (.goto 28, 3) := by decide +kernel
theorem dX0_flow_104 : decode cX0_flow 104 = .ok (.aload_n 0, 1) := by decide +kernel
theorem dX0_flow_105 : decode cX0_flow 105 = .ok (.getfield 18, 3) := by decide +kernel
theorem dX0_flow_108 : decode cX0_flow 108 = .ok (.iload_n 1, 1) := by decide +kernel
theorem dX0_flow_109 : decode cX0_flow 109 = .ok (.if_icmp .ge 20, 3) := by decide +kernel
theorem dX0_flow_112 : decode cX0_flow 112 = .ok (.aload_n 0, 1) := by decide +kernel
theorem dX0_flow_113 : decode cX0_flow 113 = .ok (.getfield 9, 3) := by decide +kernel
theorem dX0_flow_116 : decode cX0_flow 116 = .ok (.ifCond .le 13, 3) := by decide +kernel
theorem dX0_flow_119 : decode cX0_flow 119 = .ok (.aload_n 0, 1) := by decide +kernel
theorem dX0_flow_120 : decode cX0_flow 120 = .ok (.dup, 1) := by decide +kernel
theorem dX0_flow_121 : decode cX0_flow 121 = .ok (.getfield 9, 3) := by decide +kernel
theorem dX0_flow_124 : decode cX0_flow 124 = .ok (.iconst 1, 1) := by decide +kernel
theorem dX0_flow_125 : decode cX0_flow 125 = .ok (.isub, 1) := by decide +kernel
theorem dX0_flow_126 : decode cX0_flow 126 = .ok (.putfield 9, 3) := by decide +kernel
theorem dX0_flow_129 : decode cX0_flow 129 = .ok (.return_, 1) := by decide +kernel
theorem dX0_pass_0 : decode cX0_pass 0 = .ok (.aload_n 0, 1) := by decide +kernel
theorem dX0_pass_1 : decode cX0_pass 1 = .ok (.getfield 21, 3) := by decide +kernel
theorem dX0_pass_4 : decode cX0_pass 4 = .ok (.bipush (-4), 2) := by decide +kernel
theorem dX0_pass_6 : decode cX0_pass 6 = .ok (.if_icmp .eq 4, 3) := by decide +kernel
theorem dX0_pass_9 : decode cX0_pass 9 = .ok (.return_, 1) := by decide +kernel
theorem dX0_pass_10 : decode cX0_pass 10 = .ok (.aload_n 0, 1) := by decide +kernel
theorem dX0_pass_11 : decode cX0_pass 11 = .ok (.invokevirtual 73, 3) := by decide +kernel
theorem dX0_pass_14 : decode cX0_pass 14 = .ok (.aload_n 0, 1) := by decide +kernel
theorem dX0_pass_15 : decode cX0_pass 15 = .ok (.aload_n 0, 1) := by decide +kernel
theorem dX0_pass_16 : decode cX0_pass 16 = .ok (.getfield 24, 3) := by decide +kernel
theorem dX0_pass_19 : decode cX0_pass 19 = .ok (.aload_n 0, 1) := by decide +kernel
theorem dX0_pass_20 : decode cX0_pass 20 = .ok (.getfield 9, 3) := by decide +kernel
theorem dX0_pass_23 : decode cX0_pass 23 = .ok (.aload_n 0, 1) := by decide +kernel
theorem dX0_pass_24 : decode cX0_pass 24 = .ok (.getfield 15, 3) := by decide +kernel
theorem dX0_pass_27 : decode cX0_pass 27 = .ok (.iload_n 1, 1) := by decide +kernel
theorem dX0_pass_28 : decode cX0_pass 28 = .ok (.invokevirtual 76, 3) := by decide +kernel
theorem dX0_pass_31 : decode cX0_pass 31 = .ok (.putfield 21, 3) := by decide +kernel
theorem dX0_pass_34 : decode cX0_pass 34 = .ok (.return_, 1) := by decide +kernel
theorem dX0_passMany_0 : decode cX0_passMany 0 = .ok (.iconst 0, 1) := by decide +kernel
theorem dX0_passMany_1 : decode cX0_passMany 1 = .ok (.istore_n 2, 1) := by decide +kernel
theorem dX0_passMany_2 : decode cX0_passMany 2 = .ok (.iload_n 2, 1) := by decide +kernel
theorem dX0_passMany_3 : decode cX0_passMany 3 = .ok (.iload_n 1, 1) := by decide +kernel
theorem dX0_passMany_4 : decode cX0_passMany 4 = .ok (.if_icmp .ge 23, 3) := by decide +kernel
theorem dX0_passMany_7 : decode cX0_passMany 7 = .ok (.aload_n 0, 1) := by decide +kernel
theorem dX0_passMany_8 : decode cX0_passMany 8 = .ok (.getfield 21, 3) := by decide +kernel
theorem dX0_passMany_11 : decode cX0_passMany 11 = .ok (.bipush (-4), 2) := by decide +kernel
theorem dX0_passMany_13 : decode cX0_passMany 13 = .ok (.if_icmp .ne 14, 3) := by decide +kernel
theorem dX0_passMany_16 : decode cX0_passMany 16 = .ok (.aload_n 0, 1) := by decide +kernel
theorem dX0_passMany_17 : decode cX0_passMany 17 = .ok (.iconst (-1), 1) := by decide +kernel
theorem dX0_passMany_18 : decode cX0_passMany 18 = .ok (.invokevirtual 80, 3) := by decide +kernel
theorem dX0_passMany_21 : decode cX0_passMany 21 = .ok (.iinc 2 1, 3) := by decide +kernel
theorem dX0_passMany_24 : decode cX0_passMany 24 = .ok (.goto (-22), 3) := by decide +kernel
theorem dX0_passMany_27 : decode cX0_passMany 27 = .ok (.return_, 1) := by decide +kernel
theorem dX0_passUntilCaught_0 : decode cX0_passUntilCaught 0 = .ok (.iconst 1, 1) := by decide +kernel
theorem dX0_passUntilCaught_1 : decode cX0_passUntilCaught 1 = .ok (.istore_n 2, 1) := by decide +kernel
theorem dX0_passUntilCaught_2 : decode cX0_passUntilCaught 2 = .ok (.iload_n 2, 1) := by decide +kernel
theorem dX0_passUntilCaught_3 : decode cX0_passUntilCaught 3 = .ok (.bipush 60, 2) := by decide +kernel
theorem dX0_passUntilCaught_5 : decode cX0_passUntilCaught 5 = .ok (.if_icmp .gt 25, 3) := by decide +kernel
theorem dX0_passUntilCaught_8 : decode cX0_passUntilCaught 8 = .ok (.aload_n 0, 1) := by decide +kernel
theorem dX0_passUntilCaught_9 : decode cX0_passUntilCaught 9 = .ok (.iload_n 1, 1) := by decide +kernel
theorem dX0_passUntilCaught_10 : decode cX0_passUntilCaught 10 = .ok (.invokevirtual 80, 3) := by decide +kernel
theorem dX0_passUntilCaught_13 : decode cX0_passUntilCaught 13 = .ok (.aload_n 0, 1) := by decide +kernel
theorem dX0_passUntilCaught_14 : decode cX0_passUntilCaught 14 = .ok (.getfield 21, 3) := by decide +kernel
theorem dX0_passUntilCaught_17 : decode cX0_passUntilCaught 17 = .ok (.bipush (-4), 2) := by decide +kernel
theorem dX0_passUntilCaught_19 : decode cX0_passUntilCaught 19 = .ok (.if_icmp .eq 5, 3) := by decide +kernel
theorem dX0_passUntilCaught_22 : decode cX0_passUntilCaught 22 = .ok (.iload_n 2, 1) := by decide +kernel
theorem dX0_passUntilCaught_23 : decode cX0_passUntilCaught 23 = .ok (.ireturn, 1) := by decide +kernel
theorem dX0_passUntilCaught_24 : decode cX0_passUntilCaught 24 = .ok (.iinc 2 1, 3) := by decide +kernel
theorem dX0_passUntilCaught_27 : decode cX0_passUntilCaught 27 = .ok (.goto (-25), 3) := by decide +kernel
theorem dX0_passUntilCaught_30 : decode cX0_passUntilCaught 30 = .ok (.bipush (-4), 2) := by decide +kernel
theorem dX0_passUntilCaught_32 : decode cX0_passUntilCaught 32 = .ok (.ireturn, 1) := by decide +kernel
theorem dX1_init_0 : decode cX1_init 0 = .ok (.aload_n 0, 1) := by decide +kernel
theorem dX1_init_1 : decode cX1_init 1 = .ok (.invokespecial 3, 3) := by decide +kernel
theorem dX1_init_4 : decode cX1_init 4 = .ok (.aload_n 0, 1) := by decide +kernel
theorem dX1_init_5 : decode cX1_init 5 = .ok (.bipush 6, 2) := by decide +kernel
theorem dX1_init_7 : decode cX1_init 7 = .ok (.newarray .int, 2) := by decide +kernel
theorem dX1_init_9 : decode cX1_init 9 = .ok (.putfield 9, 3) := by decide +kernel
theorem dX1_init_12 : decode cX1_init 12 = .ok (.aload_n 0, 1) := by decide +kernel
theorem dX1_init_13 : decode cX1_init 13 = .ok (.bipush 6, 2) := by decide +kernel
theorem dX1_init_15 : decode cX1_init 15 = .ok (.newarray .int, 2) := by decide +kernel
theorem dX1_init_17 : decode cX1_init 17 = .ok (.putfield 15, 3) := by decide +kernel
theorem dX1_init_20 : decode cX1_init 20 = .ok (.aload_n 0, 1) := by decide +kernel
theorem dX1_init_21 : decode cX1_init 21 = .ok (.bipush 6, 2) := by decide +kernel
theorem dX1_init_23 : decode cX1_init 23 = .ok (.newarray .int, 2) := by decide +kernel
theorem dX1_init_25 : decode cX1_init 25 = .ok (.putfield 18, 3) := by decide +kernel
theorem dX1_init_28 : decode cX1_init 28 = .ok (.aload_n 0, 1) := by decide +kernel
theorem dX1_init_29 : decode cX1_init 29 = .ok (.bipush 6, 2) := by decide +kernel
theorem dX1_init_31 : decode cX1_init 31 = .ok (.newarray .int, 2) := by decide +kernel
theorem dX1_init_33 : decode cX1_init 33 = .ok (.putfield 21, 3) := by decide +kernel
theorem dX1_init_36 : decode cX1_init 36 = .ok (.aload_n 0, 1) := by decide +kernel
theorem dX1_init_37 : decode cX1_init 37 = .ok (.iconst 0, 1) := by decide +kernel
theorem dX1_init_38 : decode cX1_init 38 = .ok (.putfield 24, 3) := by decide +kernel
theorem dX1_init_41 : decode cX1_init 41 = .ok (.return_, 1) := by decide +kernel
theorem dX1_add_0 : decode cX1_add 0 = .ok (.aload_n 0, 1) := by decide +kernel
theorem dX1_add_1 : decode cX1_add 1 = .ok (.getfield 24, 3) := by decide +kernel
theorem dX1_add_4 : decode cX1_add 4 = .ok (.bipush 6, 2) := by decide +kernel
theorem dX1_add_6 : decode cX1_add 6 = .ok (.if_icmp .lt 5, 3) := by decide +kernel
theorem dX1_add_9 : decode cX1_add 9 = .ok (.iconst 0, 1) := by decide +kernel
theorem dX1_add_10 : decode cX1_add 10 = .ok (.ireturn, 1) := by decide +kernel
theorem dX1_add_11 : decode cX1_add 11 = .ok (.aload_n 0, 1) := by decide +kernel
theorem dX1_add_12 : decode cX1_add 12 = .ok (.getfield 9, 3) := by decide +kernel
theorem dX1_add_15 : decode cX1_add 15 = .ok (.aload_n 0, 1) := by decide +kernel
theorem dX1_add_16 : decode cX1_add 16 = .ok (.getfield 24, 3) := by decide +kernel
theorem dX1_add_19 : decode cX1_add 19 = .ok (.iload_n 1, 1) := by decide +kernel
theorem dX1_add_20 : decode cX1_add 20 = .ok (.iastore, 1) := by decide +kernel
theorem dX1_add_21 : decode cX1_add 21 = .ok (.aload_n 0, 1) := by decide +kernel
theorem dX1_add_22 : decode cX1_add 22 = .ok (.getfield 15, 3) := by decide +kernel
theorem dX1_add_25 : decode cX1_add 25 = .ok (.aload_n 0, 1) := by decide +kernel
theorem dX1_add_26 : decode cX1_add 26 = .ok (.getfield 24, 3) := by decide +kernel
theorem dX1_add_29 : decode cX1_add 29 = .ok (.iload_n 2, 1) := by decide +kernel
theorem dX1_add_30 : decode cX1_add 30 = .ok (.iastore, 1) := by decide +kernel
theorem dX1_add_31 : decode cX1_add 31 = .ok (.aload_n 0, 1) := by decide +kernel
theorem dX1_add_32 : decode cX1_add 32 = .ok (.getfield 18, 3) := by decide +kernel
theorem dX1_add_35 : decode cX1_add 35 = .ok (.aload_n 0, 1) := by decide +kernel
theorem dX1_add_36 : decode cX1_add 36 = .ok (.getfield 24, 3) := by decide +kernel
theorem dX1_add_39 : decode cX1_add 39 = .ok (.iload_n 3, 1) := by decide +kernel
theorem dX1_add_40 : decode cX1_add 40 = .ok (.iastore, 1) := by decide +kernel
theorem dX1_add_41 : decode cX1_add 41 = .ok (.aload_n 0, 1) := by decide +kernel
theorem dX1_add_42 : decode cX1_add 42 = .ok (.getfield 21, 3) := by decide +kernel
theorem dX1_add_45 : decode cX1_add 45 = .ok (.aload_n 0, 1) := by decide +kernel
theorem dX1_add_46 : decode cX1_add 46 = .ok (.getfield 24, 3) := by decide +kernel
theorem dX1_add_49 : decode cX1_add 49 = .ok (.iload 4, 2) := by decide +kernel
theorem dX1_add_51 : decode cX1_add 51 = .ok (.iastore, 1) := by decide +kernel
theorem dX1_add_52 : decode cX1_add 52 = .ok (.aload_n 0, 1) := by decide +kernel
theorem dX1_add_53 : decode cX1_add 53 = .ok (.dup, 1) := by decide +kernel
theorem dX1_add_54 : decode cX1_add 54 = .ok (.getfield 24, 3) := by decide +kernel
theorem dX1_add_57 : decode cX1_add 57 = .ok (.iconst 1, 1) := by decide +kernel
theorem dX1_add_58 : decode cX1_add 58 = .ok (.iadd, 1) := by decide +kernel
theorem dX1_add_59 : decode cX1_add 59 = .ok (.putfield 24, 3) := by decide +kernel
theorem dX1_add_62 : decode cX1_add 62 = .ok (.iconst 1, 1) := by decide +kernel
theorem dX1_add_63 : decode cX1_add 63 = .ok (.ireturn, 1) := by decide +kernel
theorem dX1_empty_0 : decode cX1_empty 0 = .ok (.aload_n 0, 1) := by decide +kernel
theorem dX1_empty_1 : decode cX1_empty 1 = .ok (.getfield 24, 3) := by decide +kernel
theorem dX1_empty_4 : decode cX1_empty 4 = .ok (.istore_n 1, 1) := by decide +kernel
theorem dX1_empty_5 : decode cX1_empty 5 = .ok (.aload_n 0, 1) := by decide +kernel
theorem dX1_empty_6 : decode cX1_empty 6 = .ok (.iconst 0, 1) := by decide +kernel
theorem dX1_empty_7 : decode cX1_empty 7 = .ok (.putfield 24, 3) := by decide +kernel
theorem dX1_empty_10 : decode cX1_empty 10 = .ok (.iload_n 1, 1) := by decide +kernel
theorem dX1_empty_11 : decode cX1_empty 11 = .ok (.ireturn, 1) := by decide +kernel
theorem dX1_allBy_0 : decode cX1_allBy 0 = .ok (.iconst 0, 1) := by decide +kernel
theorem dX1_allBy_1 : decode cX1_allBy 1 = .ok (.istore 4, 2) := by decide +kernel
theorem dX1_allBy_3 : decode cX1_allBy 3 = .ok (.iload 4, 2) := by decide +kernel
theorem dX1_allBy_5 : decode cX1_allBy 5 = .ok (.aload_n 0, 1) := by decide +kernel
theorem dX1_allBy_6 : decode cX1_allBy 6 = .ok (.getfield 24, 3) := by decide +kernel
theorem dX1_allBy_9 : decode cX1_allBy 9 = .ok (.if_icmp .ge 58, 3) := by decide +kernel
theorem dX1_allBy_12 : decode cX1_allBy 12 = .ok (.aload_n 0, 1) := by decide +kernel
theorem dX1_allBy_13 : decode cX1_allBy 13 = .ok (.getfield 9, 3) := by decide +kernel
theorem dX1_allBy_16 : decode cX1_allBy 16 = .ok (.iload 4, 2) := by decide +kernel
theorem dX1_allBy_18 : decode cX1_allBy 18 = .ok (.iaload, 1) := by decide +kernel
theorem dX1_allBy_19 : decode cX1_allBy 19 = .ok (.iload_n 2, 1) := by decide +kernel
theorem dX1_allBy_20 : decode cX1_allBy 20 = .ok (.if_icmp .eq 6, 3) := by decide +kernel
theorem dX1_allBy_23 : decode cX1_allBy 23 = .ok (.goto 38, 3) := by decide +kernel
theorem dX1_allBy_26 : decode cX1_allBy 26 = .ok (.aload_n 1, 1) := by decide +kernel
theorem dX1_allBy_27 : decode cX1_allBy 27 = .ok (.aload_n 0, 1) := by decide +kernel
theorem dX1_allBy_28 : decode cX1_allBy 28 = .ok (.getfield 15, 3) := by decide +kernel
theorem dX1_allBy_31 : decode cX1_allBy 31 = .ok (.iload 4, 2) := by decide +kernel
theorem dX1_allBy_33 : decode cX1_allBy 33 = .ok (.iaload, 1) := by decide +kernel
theorem dX1_allBy_34 : decode cX1_allBy 34 = .ok (.aload_n 0, 1) := by decide +kernel
theorem dX1_allBy_35 : decode cX1_allBy 35 = .ok (.getfield 21, 3) := by decide +kernel
theorem dX1_allBy_38 : decode cX1_allBy 38 = .ok (.iload 4, 2) := by decide +kernel
theorem dX1_allBy_40 : decode cX1_allBy 40 = .ok (.iaload, 1) := by decide +kernel
theorem dX1_allBy_41 : decode cX1_allBy 41 = .ok (.iload_n 3, 1) := by decide +kernel
theorem dX1_allBy_42 : decode cX1_allBy 42 = .ok (.iconst 3, 1) := by decide +kernel
theorem dX1_allBy_43 : decode cX1_allBy 43 = .ok (.isub, 1) := by decide +kernel
theorem dX1_allBy_44 : decode cX1_allBy 44 = .ok (.imul, 1) := by decide +kernel
theorem dX1_allBy_45 : decode cX1_allBy 45 = .ok (.iadd, 1) := by decide +kernel
theorem dX1_allBy_46 : decode cX1_allBy 46 = .ok (.invokevirtual 28, 3) := by decide +kernel
theorem dX1_allBy_49 : decode cX1_allBy 49 = .ok (.aload_n 0, 1) := by decide +kernel
theorem dX1_allBy_50 : decode cX1_allBy 50 = .ok (.getfield 18, 3) := by decide +kernel
theorem dX1_allBy_53 : decode cX1_allBy 53 = .ok (.iload 4, 2) := by decide +kernel
theorem dX1_allBy_55 : decode cX1_allBy 55 = .ok (.iaload, 1) := by decide +kernel
theorem dX1_allBy_56 : decode cX1_allBy 56 = .ok (.if_icmp .eq 5, 3) := by decide +kernel
theorem dX1_allBy_59 : decode cX1_allBy 59 = .ok (.iconst 0, 1) := by decide +kernel
theorem dX1_allBy_60 : decode cX1_allBy 60 = .ok (.ireturn, 1) := by decide +kernel
theorem dX1_allBy_61 : decode cX1_allBy 61 = .ok (.iinc 4 1, 3) := by decide +kernel
theorem dX1_allBy_64 : decode cX1_allBy 64 = .ok (.goto (-61), 3) := by decide +kernel
theorem dX1_allBy_67 : decode cX1_allBy 67 = .ok (.iconst 1, 1) := by decide +kernel
theorem dX1_allBy_68 : decode cX1_allBy 68 = .ok (.ireturn, 1) := by decide +kernel
theorem dX2_init_0 : decode cX2_init 0 = .ok (.aload_n 0, 1) := by decide +kernel
theorem dX2_init_1 : decode cX2_init 1 = .ok (.invokespecial 3, 3) := by decide +kernel
theorem dX2_init_4 : decode cX2_init 4 = .ok (.aload_n 0, 1) := by decide +kernel
theorem dX2_init_5 : decode cX2_init 5 = .ok (.bipush 6, 2) := by decide +kernel
theorem dX2_init_7 : decode cX2_init 7 = .ok (.newarray .int, 2) := by decide +kernel
theorem dX2_init_9 : decode cX2_init 9 = .ok (.putfield 9, 3) := by decide +kernel
theorem dX2_init_12 : decode cX2_init 12 = .ok (.aload_n 0, 1) := by decide +kernel
theorem dX2_init_13 : decode cX2_init 13 = .ok (.bipush 6, 2) := by decide +kernel
theorem dX2_init_15 : decode cX2_init 15 = .ok (.newarray .int, 2) := by decide +kernel
theorem dX2_init_17 : decode cX2_init 17 = .ok (.putfield 15, 3) := by decide +kernel
theorem dX2_init_20 : decode cX2_init 20 = .ok (.aload_n 0, 1) := by decide +kernel
theorem dX2_init_21 : decode cX2_init 21 = .ok (.iconst 0, 1) := by decide +kernel
theorem dX2_init_22 : decode cX2_init 22 = .ok (.putfield 18, 3) := by decide +kernel
theorem dX2_init_25 : decode cX2_init 25 = .ok (.aload_n 0, 1) := by decide +kernel
theorem dX2_init_26 : decode cX2_init 26 = .ok (.iconst 0, 1) := by decide +kernel
theorem dX2_init_27 : decode cX2_init 27 = .ok (.putfield 22, 3) := by decide +kernel
theorem dX2_init_30 : decode cX2_init 30 = .ok (.aload_n 0, 1) := by decide +kernel
theorem dX2_init_31 : decode cX2_init 31 = .ok (.bipush (-4), 2) := by decide +kernel
theorem dX2_init_33 : decode cX2_init 33 = .ok (.putfield 25, 3) := by decide +kernel
theorem dX2_init_36 : decode cX2_init 36 = .ok (.aload_n 0, 1) := by decide +kernel
theorem dX2_init_37 : decode cX2_init 37 = .ok (.aload_n 1, 1) := by decide +kernel
theorem dX2_init_38 : decode cX2_init 38 = .ok (.putfield 28, 3) := by decide +kernel
theorem dX2_init_41 : decode cX2_init 41 = .ok (.aload_n 0, 1) := by decide +kernel
theorem dX2_init_42 : decode cX2_init 42 = .ok (.aload_n 2, 1) := by decide +kernel
theorem dX2_init_43 : decode cX2_init 43 = .ok (.putfield 32, 3) := by decide +kernel
theorem dX2_init_46 : decode cX2_init 46 = .ok (.return_, 1) := by decide +kernel
theorem dX2_add_0 : decode cX2_add 0 = .ok (.aload_n 0, 1) := by decide +kernel
theorem dX2_add_1 : decode cX2_add 1 = .ok (.getfield 18, 3) := by decide +kernel
theorem dX2_add_4 : decode cX2_add 4 = .ok (.bipush 6, 2) := by decide +kernel
theorem dX2_add_6 : decode cX2_add 6 = .ok (.if_icmp .lt 5, 3) := by decide +kernel
theorem dX2_add_9 : decode cX2_add 9 = .ok (.iconst 0, 1) := by decide +kernel
theorem dX2_add_10 : decode cX2_add 10 = .ok (.ireturn, 1) := by decide +kernel
theorem dX2_add_11 : decode cX2_add 11 = .ok (.aload_n 0, 1) := by decide +kernel
theorem dX2_add_12 : decode cX2_add 12 = .ok (.getfield 9, 3) := by decide +kernel
theorem dX2_add_15 : decode cX2_add 15 = .ok (.aload_n 0, 1) := by decide +kernel
theorem dX2_add_16 : decode cX2_add 16 = .ok (.getfield 18, 3) := by decide +kernel
theorem dX2_add_19 : decode cX2_add 19 = .ok (.iload_n 1, 1) := by decide +kernel
theorem dX2_add_20 : decode cX2_add 20 = .ok (.iastore, 1) := by decide +kernel
theorem dX2_add_21 : decode cX2_add 21 = .ok (.aload_n 0, 1) := by decide +kernel
theorem dX2_add_22 : decode cX2_add 22 = .ok (.getfield 15, 3) := by decide +kernel
theorem dX2_add_25 : decode cX2_add 25 = .ok (.aload_n 0, 1) := by decide +kernel
theorem dX2_add_26 : decode cX2_add 26 = .ok (.getfield 18, 3) := by decide +kernel
theorem dX2_add_29 : decode cX2_add 29 = .ok (.iload_n 2, 1) := by decide +kernel
theorem dX2_add_30 : decode cX2_add 30 = .ok (.iastore, 1) := by decide +kernel
theorem dX2_add_31 : decode cX2_add 31 = .ok (.aload_n 0, 1) := by decide +kernel
theorem dX2_add_32 : decode cX2_add 32 = .ok (.dup, 1) := by decide +kernel
theorem dX2_add_33 : decode cX2_add 33 = .ok (.getfield 18, 3) := by decide +kernel
theorem dX2_add_36 : decode cX2_add 36 = .ok (.iconst 1, 1) := by decide +kernel
theorem dX2_add_37 : decode cX2_add 37 = .ok (.iadd, 1) := by decide +kernel
theorem dX2_add_38 : decode cX2_add 38 = .ok (.putfield 18, 3) := by decide +kernel
theorem dX2_add_41 : decode cX2_add 41 = .ok (.iconst 1, 1) := by decide +kernel
theorem dX2_add_42 : decode cX2_add 42 = .ok (.ireturn, 1) := by decide +kernel
theorem dX2_empty_0 : decode cX2_empty 0 = .ok (.aload_n 0, 1) := by decide +kernel
theorem dX2_empty_1 : decode cX2_empty 1 = .ok (.getfield 18, 3) := by decide +kernel
theorem dX2_empty_4 : decode cX2_empty 4 = .ok (.istore_n 1, 1) := by decide +kernel
theorem dX2_empty_5 : decode cX2_empty 5 = .ok (.aload_n 0, 1) := by decide +kernel
theorem dX2_empty_6 : decode cX2_empty 6 = .ok (.iconst 0, 1) := by decide +kernel
theorem dX2_empty_7 : decode cX2_empty 7 = .ok (.putfield 18, 3) := by decide +kernel
theorem dX2_empty_10 : decode cX2_empty 10 = .ok (.iload_n 1, 1) := by decide +kernel
theorem dX2_empty_11 : decode cX2_empty 11 = .ok (.ireturn, 1) := by decide +kernel
theorem dX2_seek_0 : decode cX2_seek 0 = .ok (.aload_n 0, 1) := by decide +kernel
theorem dX2_seek_1 : decode cX2_seek 1 = .ok (.iconst 0, 1) := by decide +kernel
theorem dX2_seek_2 : decode cX2_seek 2 = .ok (.putfield 22, 3) := by decide +kernel
theorem dX2_seek_5 : decode cX2_seek 5 = .ok (.aload_n 0, 1) := by decide +kernel
theorem dX2_seek_6 : decode cX2_seek 6 = .ok (.bipush (-4), 2) := by decide +kernel
theorem dX2_seek_8 : decode cX2_seek 8 = .ok (.putfield 25, 3) := by decide +kernel
theorem dX2_seek_11 : decode cX2_seek 11 = .ok (.iconst 0, 1) := by decide +kernel
theorem dX2_seek_12 : decode cX2_seek 12 = .ok (.istore_n 1, 1) := by decide +kernel
theorem dX2_seek_13 : decode cX2_seek 13 = .ok (.iload_n 1, 1) := by decide +kernel
theorem dX2_seek_14 : decode cX2_seek 14 = .ok (.aload_n 0, 1) := by decide +kernel
theorem dX2_seek_15 : decode cX2_seek 15 = .ok (.getfield 28, 3) := by decide +kernel
theorem dX2_seek_18 : decode cX2_seek 18 = .ok (.getfield 36, 3) := by decide +kernel
theorem dX2_seek_21 : decode cX2_seek 21 = .ok (.getfield 42, 3) := by decide +kernel
theorem dX2_seek_24 : decode cX2_seek 24 = .ok (.if_icmp .ge 83, 3) := by decide +kernel
theorem dX2_seek_27 : decode cX2_seek 27 = .ok (.iconst 0, 1) := by decide +kernel
theorem dX2_seek_28 : decode cX2_seek 28 = .ok (.istore_n 2, 1) := by decide +kernel
theorem dX2_seek_29 : decode cX2_seek 29 = .ok (.iload_n 2, 1) := by decide +kernel
theorem dX2_seek_30 : decode cX2_seek 30 = .ok (.aload_n 0, 1) := by decide +kernel
theorem dX2_seek_31 : decode cX2_seek 31 = .ok (.getfield 28, 3) := by decide +kernel
theorem dX2_seek_34 : decode cX2_seek 34 = .ok (.getfield 36, 3) := by decide +kernel
theorem dX2_seek_37 : decode cX2_seek 37 = .ok (.getfield 47, 3) := by decide +kernel
theorem dX2_seek_40 : decode cX2_seek 40 = .ok (.if_icmp .ge 61, 3) := by decide +kernel
theorem dX2_seek_43 : decode cX2_seek 43 = .ok (.iload_n 1, 1) := by decide +kernel
theorem dX2_seek_44 : decode cX2_seek 44 = .ok (.iload_n 2, 1) := by decide +kernel
theorem dX2_seek_45 : decode cX2_seek 45 = .ok (.invokestatic 50, 3) := by decide +kernel
theorem dX2_seek_48 : decode cX2_seek 48 = .ok (.istore_n 3, 1) := by decide +kernel
theorem dX2_seek_49 : decode cX2_seek 49 = .ok (.aload_n 0, 1) := by decide +kernel
theorem dX2_seek_50 : decode cX2_seek 50 = .ok (.getfield 32, 3) := by decide +kernel
theorem dX2_seek_53 : decode cX2_seek 53 = .ok (.iload_n 3, 1) := by decide +kernel
theorem dX2_seek_54 : decode cX2_seek 54 = .ok (.invokevirtual 54, 3) := by decide +kernel
theorem dX2_seek_57 : decode cX2_seek 57 = .ok (.ifCond .eq 38, 3) := by decide +kernel
theorem dX2_seek_60 : decode cX2_seek 60 = .ok (.aload_n 0, 1) := by decide +kernel
theorem dX2_seek_61 : decode cX2_seek 61 = .ok (.iload_n 3, 1) := by decide +kernel
theorem dX2_seek_62 : decode cX2_seek 62 = .ok (.invokevirtual 60, 3) := by decide +kernel
theorem dX2_seek_65 : decode cX2_seek 65 = .ok (.ifCond .ne 6, 3) := by decide +kernel
theorem dX2_seek_68 : decode cX2_seek 68 = .ok (.goto 27, 3) := by decide +kernel
theorem dX2_seek_71 : decode cX2_seek 71 = .ok (.aload_n 0, 1) := by decide +kernel
theorem dX2_seek_72 : decode cX2_seek 72 = .ok (.getfield 25, 3) := by decide +kernel
theorem dX2_seek_75 : decode cX2_seek 75 = .ok (.bipush (-4), 2) := by decide +kernel
theorem dX2_seek_77 : decode cX2_seek 77 = .ok (.if_icmp .ne 8, 3) := by decide +kernel
theorem dX2_seek_80 : decode cX2_seek 80 = .ok (.aload_n 0, 1) := by decide +kernel
theorem dX2_seek_81 : decode cX2_seek 81 = .ok (.iload_n 3, 1) := by decide +kernel
theorem dX2_seek_82 : decode cX2_seek 82 = .ok (.putfield 25, 3) := by decide +kernel
theorem dX2_seek_85 : decode cX2_seek 85 = .ok (.aload_n 0, 1) := by decide +kernel
theorem dX2_seek_86 : decode cX2_seek 86 = .ok (.dup, 1) := by decide +kernel
theorem dX2_seek_87 : decode cX2_seek 87 = .ok (.getfield 22, 3) := by decide +kernel
theorem dX2_seek_90 : decode cX2_seek 90 = .ok (.iconst 1, 1) := by decide +kernel
theorem dX2_seek_91 : decode cX2_seek 91 = .ok (.iadd, 1) := by decide +kernel
theorem dX2_seek_92 : decode cX2_seek 92 = .ok (.putfield 22, 3) := by decide +kernel
theorem dX2_seek_95 : decode cX2_seek 95 = .ok (.iinc 2 1, 3) := by decide +kernel
theorem dX2_seek_98 : decode cX2_seek 98 = .ok (.goto (-69), 3) := by decide +kernel
theorem dX2_seek_101 : decode cX2_seek 101 = .ok (.iinc 1 1, 3) := by decide +kernel
theorem dX2_seek_104 : decode cX2_seek 104 = .ok (.goto (-91), 3) := by decide +kernel
theorem dX2_seek_107 : decode cX2_seek 107 = .ok (.return_, 1) := by decide +kernel
theorem dX2_canBeSource_0 : decode cX2_canBeSource 0 = .ok (.iconst 0, 1) := by decide +kernel
theorem dX2_canBeSource_1 : decode cX2_canBeSource 1 = .ok (.istore_n 2, 1) := by decide +kernel
theorem dX2_canBeSource_2 : decode cX2_canBeSource 2 = .ok (.iconst 0, 1) := by decide +kernel
theorem dX2_canBeSource_3 : decode cX2_canBeSource 3 = .ok (.istore_n 3, 1) := by decide +kernel
theorem dX2_canBeSource_4 : decode cX2_canBeSource 4 = .ok (.iload_n 3, 1) := by decide +kernel
theorem dX2_canBeSource_5 : decode cX2_canBeSource 5 = .ok (.aload_n 0, 1) := by decide +kernel
theorem dX2_canBeSource_6 : decode cX2_canBeSource 6 = .ok (.getfield 18, 3) := by decide +kernel
theorem dX2_canBeSource_9 : decode cX2_canBeSource 9 = .ok (.if_icmp .ge 73, 3) := by decide +kernel
theorem dX2_canBeSource_12 : decode cX2_canBeSource 12 = .ok (.aload_n 0, 1) := by decide +kernel
theorem dX2_canBeSource_13 : decode cX2_canBeSource 13 = .ok (.getfield 32, 3) := by decide +kernel
theorem dX2_canBeSource_16 : decode cX2_canBeSource 16 = .ok (.aload_n 0, 1) := by decide +kernel
theorem dX2_canBeSource_17 : decode cX2_canBeSource 17 = .ok (.getfield 28, 3) := by decide +kernel
theorem dX2_canBeSource_20 : decode cX2_canBeSource 20 = .ok (.aload_n 0, 1) := by decide +kernel
theorem dX2_canBeSource_21 : decode cX2_canBeSource 21 = .ok (.getfield 9, 3) := by decide +kernel
theorem dX2_canBeSource_24 : decode cX2_canBeSource 24 = .ok (.iload_n 3, 1) := by decide +kernel
theorem dX2_canBeSource_25 : decode cX2_canBeSource 25 = .ok (.iaload, 1) := by decide +kernel
theorem dX2_canBeSource_26 : decode cX2_canBeSource 26 = .ok (.invokevirtual 63, 3) := by decide +kernel
theorem dX2_canBeSource_29 : decode cX2_canBeSource 29 = .ok (.invokevirtual 67, 3) := by decide +kernel
theorem dX2_canBeSource_32 : decode cX2_canBeSource 32 = .ok (.iload_n 1, 1) := by decide +kernel
theorem dX2_canBeSource_33 : decode cX2_canBeSource 33 = .ok (.invokevirtual 71, 3) := by decide +kernel
theorem dX2_canBeSource_36 : decode cX2_canBeSource 36 = .ok (.istore 4, 2) := by decide +kernel
theorem dX2_canBeSource_38 : decode cX2_canBeSource 38 = .ok (.iload 4, 2) := by decide +kernel
theorem dX2_canBeSource_40 : decode cX2_canBeSource 40 = .ok (.ldc 76, 2) := by decide +kernel
theorem dX2_canBeSource_42 : decode cX2_canBeSource 42 = .ok (.if_icmp .lt 5, 3) := by decide +kernel
theorem dX2_canBeSource_45 : decode cX2_canBeSource 45 = .ok (.iconst 0, 1) := by decide +kernel
theorem dX2_canBeSource_46 : decode cX2_canBeSource 46 = .ok (.ireturn, 1) := by decide +kernel
theorem dX2_canBeSource_47 : decode cX2_canBeSource 47 = .ok (.iload_n 3, 1) := by decide +kernel
theorem dX2_canBeSource_48 : decode cX2_canBeSource 48 = .ok (.ifCond .le 18, 3) := by decide +kernel
theorem dX2_canBeSource_51 : decode cX2_canBeSource 51 = .ok (.aload_n 0, 1) := by decide +kernel
theorem dX2_canBeSource_52 : decode cX2_canBeSource 52 = .ok (.getfield 15, 3) := by decide +kernel
theorem dX2_canBeSource_55 : decode cX2_canBeSource 55 = .ok (.iload_n 3, 1) := by decide +kernel
theorem dX2_canBeSource_56 : decode cX2_canBeSource 56 = .ok (.iaload, 1) := by decide +kernel
theorem dX2_canBeSource_57 : decode cX2_canBeSource 57 = .ok (.iload 4, 2) := by decide +kernel
theorem dX2_canBeSource_59 : decode cX2_canBeSource 59 = .ok (.isub, 1) := by decide +kernel
theorem dX2_canBeSource_60 : decode cX2_canBeSource 60 = .ok (.iload_n 2, 1) := by decide +kernel
theorem dX2_canBeSource_61 : decode cX2_canBeSource 61 = .ok (.if_icmp .eq 5, 3) := by decide +kernel
theorem dX2_canBeSource_64 : decode cX2_canBeSource 64 = .ok (.iconst 0, 1) := by decide +kernel
theorem dX2_canBeSource_65 : decode cX2_canBeSource 65 = .ok (.ireturn, 1) := by decide +kernel
theorem dX2_canBeSource_66 : decode cX2_canBeSource 66 = .ok (.aload_n 0, 1) := by decide +kernel
theorem dX2_canBeSource_67 : decode cX2_canBeSource 67 = .ok (.getfield 15, 3) := by decide +kernel
theorem dX2_canBeSource_70 : decode cX2_canBeSource 70 = .ok (.iload_n 3, 1) := by decide +kernel
theorem dX2_canBeSource_71 : decode cX2_canBeSource 71 = .ok (.iaload, 1) := by decide +kernel
theorem dX2_canBeSource_72 : decode cX2_canBeSource 72 = .ok (.iload 4, 2) := by decide +kernel
theorem dX2_canBeSource_74 : decode cX2_canBeSource 74 = .ok (.isub, 1) := by decide +kernel
theorem dX2_canBeSource_75 : decode cX2_canBeSource 75 = .ok (.istore_n 2, 1) := by decide +kernel
theorem dX2_canBeSource_76 : decode cX2_canBeSource 76 = .ok (.iinc 3 1, 3) := by decide +kernel
theorem dX2_canBeSource_79 : decode cX2_canBeSource 79 = .ok (.goto (-75), 3) := by decide +kernel
theorem dX2_canBeSource_82 : decode cX2_canBeSource 82 = .ok (.iconst 1, 1) := by decide +kernel
theorem dX2_canBeSource_83 : decode cX2_canBeSource 83 = .ok (.ireturn, 1) := by decide +kernel
theorem dX3_init_0 : decode cX3_init 0 = .ok (.aload_n 0, 1) := by decide +kernel
theorem dX3_init_1 : decode cX3_init 1 = .ok (.invokespecial 3, 3) := by decide +kernel
theorem dX3_init_4 : decode cX3_init 4 = .ok (.aload_n 0, 1) := by decide +kernel
theorem dX3_init_5 : decode cX3_init 5 = .ok (.bipush 6, 2) := by decide +kernel
theorem dX3_init_7 : decode cX3_init 7 = .ok (.newarray .int, 2) := by decide +kernel
theorem dX3_init_9 : decode cX3_init 9 = .ok (.putfield 9, 3) := by decide +kernel
theorem dX3_init_12 : decode cX3_init 12 = .ok (.aload_n 0, 1) := by decide +kernel
theorem dX3_init_13 : decode cX3_init 13 = .ok (.bipush 6, 2) := by decide +kernel
theorem dX3_init_15 : decode cX3_init 15 = .ok (.anewarray 15, 3) := by decide +kernel
theorem dX3_init_18 : decode cX3_init 18 = .ok (.putfield 17, 3) := by decide +kernel
theorem dX3_init_21 : decode cX3_init 21 = .ok (.aload_n 0, 1) := by decide +kernel
theorem dX3_init_22 : decode cX3_init 22 = .ok (.iconst 0, 1) := by decide +kernel
theorem dX3_init_23 : decode cX3_init 23 = .ok (.putfield 21, 3) := by decide +kernel
theorem dX3_init_26 : decode cX3_init 26 = .ok (.aload_n 0, 1) := by decide +kernel
theorem dX3_init_27 : decode cX3_init 27 = .ok (.bipush (-4), 2) := by decide +kernel
theorem dX3_init_29 : decode cX3_init 29 = .ok (.putfield 25, 3) := by decide +kernel
theorem dX3_init_32 : decode cX3_init 32 = .ok (.aload_n 0, 1) := by decide +kernel
theorem dX3_init_33 : decode cX3_init 33 = .ok (.bipush (-4), 2) := by decide +kernel
theorem dX3_init_35 : decode cX3_init 35 = .ok (.putfield 28, 3) := by decide +kernel
theorem dX3_init_38 : decode cX3_init 38 = .ok (.aload_n 0, 1) := by decide +kernel
theorem dX3_init_39 : decode cX3_init 39 = .ok (.bipush (-4), 2) := by decide +kernel
theorem dX3_init_41 : decode cX3_init 41 = .ok (.putfield 31, 3) := by decide +kernel
theorem dX3_init_44 : decode cX3_init 44 = .ok (.aload_n 0, 1) := by decide +kernel
theorem dX3_init_45 : decode cX3_init 45 = .ok (.aload_n 1, 1) := by decide +kernel
theorem dX3_init_46 : decode cX3_init 46 = .ok (.putfield 34, 3) := by decide +kernel
theorem dX3_init_49 : decode cX3_init 49 = .ok (.aload_n 0, 1) := by decide +kernel
theorem dX3_init_50 : decode cX3_init 50 = .ok (.aload_n 2, 1) := by decide +kernel
theorem dX3_init_51 : decode cX3_init 51 = .ok (.putfield 38, 3) := by decide +kernel
theorem dX3_init_54 : decode cX3_init 54 = .ok (.return_, 1) := by decide +kernel
theorem dX3_seek_0 : decode cX3_seek 0 = .ok (.aload_n 0, 1) := by decide +kernel
theorem dX3_seek_1 : decode cX3_seek 1 = .ok (.iload_n 1, 1) := by decide +kernel
theorem dX3_seek_2 : decode cX3_seek 2 = .ok (.putfield 21, 3) := by decide +kernel
theorem dX3_seek_5 : decode cX3_seek 5 = .ok (.aload_n 0, 1) := by decide +kernel
theorem dX3_seek_6 : decode cX3_seek 6 = .ok (.bipush (-4), 2) := by decide +kernel
theorem dX3_seek_8 : decode cX3_seek 8 = .ok (.putfield 25, 3) := by decide +kernel
theorem dX3_seek_11 : decode cX3_seek 11 = .ok (.aload_n 0, 1) := by decide +kernel
theorem dX3_seek_12 : decode cX3_seek 12 = .ok (.bipush (-4), 2) := by decide +kernel
theorem dX3_seek_14 : decode cX3_seek 14 = .ok (.putfield 28, 3) := by decide +kernel
theorem dX3_seek_17 : decode cX3_seek 17 = .ok (.aload_n 0, 1) := by decide +kernel
theorem dX3_seek_18 : decode cX3_seek 18 = .ok (.bipush (-4), 2) := by decide +kernel
theorem dX3_seek_20 : decode cX3_seek 20 = .ok (.putfield 31, 3) := by decide +kernel
theorem dX3_seek_23 : decode cX3_seek 23 = .ok (.iconst 0, 1) := by decide +kernel
theorem dX3_seek_24 : decode cX3_seek 24 = .ok (.istore_n 2, 1) := by decide +kernel
theorem dX3_seek_25 : decode cX3_seek 25 = .ok (.iload_n 2, 1) := by decide +kernel
theorem dX3_seek_26 : decode cX3_seek 26 = .ok (.aload_n 0, 1) := by decide +kernel
theorem dX3_seek_27 : decode cX3_seek 27 = .ok (.getfield 34, 3) := by decide +kernel
theorem dX3_seek_30 : decode cX3_seek 30 = .ok (.getfield 42, 3) := by decide +kernel
theorem dX3_seek_33 : decode cX3_seek 33 = .ok (.getfield 48, 3) := by decide +kernel
theorem dX3_seek_36 : decode cX3_seek 36 = .ok (.if_icmp .ge 22, 3) := by decide +kernel
theorem dX3_seek_39 : decode cX3_seek 39 = .ok (.aload_n 0, 1) := by decide +kernel
theorem dX3_seek_40 : decode cX3_seek 40 = .ok (.iload_n 2, 1) := by decide +kernel
theorem dX3_seek_41 : decode cX3_seek 41 = .ok (.aload_n 0, 1) := by decide +kernel
theorem dX3_seek_42 : decode cX3_seek 42 = .ok (.getfield 34, 3) := by decide +kernel
theorem dX3_seek_45 : decode cX3_seek 45 = .ok (.iload_n 2, 1) := by decide +kernel
theorem dX3_seek_46 : decode cX3_seek 46 = .ok (.invokevirtual 53, 3) := by decide +kernel
theorem dX3_seek_49 : decode cX3_seek 49 = .ok (.invokevirtual 57, 3) := by decide +kernel
theorem dX3_seek_52 : decode cX3_seek 52 = .ok (.iinc 2 1, 3) := by decide +kernel
theorem dX3_seek_55 : decode cX3_seek 55 = .ok (.goto (-30), 3) := by decide +kernel
theorem dX3_seek_58 : decode cX3_seek 58 = .ok (.aload_n 0, 1) := by decide +kernel
theorem dX3_seek_59 : decode cX3_seek 59 = .ok (.iconst (-1), 1) := by decide +kernel
theorem dX3_seek_60 : decode cX3_seek 60 = .ok (.invokevirtual 61, 3) := by decide +kernel
theorem dX3_seek_63 : decode cX3_seek 63 = .ok (.ifCond .eq 11, 3) := by decide +kernel
theorem dX3_seek_66 : decode cX3_seek 66 = .ok (.aload_n 0, 1) := by decide +kernel
theorem dX3_seek_67 : decode cX3_seek 67 = .ok (.iconst 0, 1) := by decide +kernel
theorem dX3_seek_68 : decode cX3_seek 68 = .ok (.putfield 25, 3) := by decide +kernel
theorem dX3_seek_71 : decode cX3_seek 71 = .ok (.goto 30, 3) := by decide +kernel
theorem dX3_seek_74 : decode cX3_seek 74 = .ok (.aload_n 0, 1) := by decide +kernel
theorem dX3_seek_75 : decode cX3_seek 75 = .ok (.invokevirtual 65, 3) := by decide +kernel
theorem dX3_seek_78 : decode cX3_seek 78 = .ok (.ifCond .eq 11, 3) := by decide +kernel
theorem dX3_seek_81 : decode cX3_seek 81 = .ok (.aload_n 0, 1) := by decide +kernel
theorem dX3_seek_82 : decode cX3_seek 82 = .ok (.iconst 1, 1) := by decide +kernel
theorem dX3_seek_83 : decode cX3_seek 83 = .ok (.putfield 25, 3) := by decide +kernel
theorem dX3_seek_86 : decode cX3_seek 86 = .ok (.goto 15, 3) := by decide +kernel
theorem dX3_seek_89 : decode cX3_seek 89 = .ok (.aload_n 0, 1) := by decide +kernel
theorem dX3_seek_90 : decode cX3_seek 90 = .ok (.invokevirtual 69, 3) := by decide +kernel
theorem dX3_seek_93 : decode cX3_seek 93 = .ok (.ifCond .eq 8, 3) := by decide +kernel
theorem dX3_seek_96 : decode cX3_seek 96 = .ok (.aload_n 0, 1) := by decide +kernel
theorem dX3_seek_97 : decode cX3_seek 97 = .ok (.iconst 2, 1) := by decide +kernel
theorem dX3_seek_98 : decode cX3_seek 98 = .ok (.putfield 25, 3) := by decide +kernel
theorem dX3_seek_101 : decode cX3_seek 101 = .ok (.return_, 1) := by decide +kernel
theorem dX3_hangAt_0 : decode cX3_hangAt 0 = .ok (.aload_n 0, 1) := by decide +kernel
theorem dX3_hangAt_1 : decode cX3_hangAt 1 = .ok (.getfield 9, 3) := by decide +kernel
theorem dX3_hangAt_4 : decode cX3_hangAt 4 = .ok (.iload_n 1, 1) := by decide +kernel
theorem dX3_hangAt_5 : decode cX3_hangAt 5 = .ok (.iload_n 2, 1) := by decide +kernel
theorem dX3_hangAt_6 : decode cX3_hangAt 6 = .ok (.iastore, 1) := by decide +kernel
theorem dX3_hangAt_7 : decode cX3_hangAt 7 = .ok (.aload_n 0, 1) := by decide +kernel
theorem dX3_hangAt_8 : decode cX3_hangAt 8 = .ok (.getfield 17, 3) := by decide +kernel
theorem dX3_hangAt_11 : decode cX3_hangAt 11 = .ok (.iload_n 1, 1) := by decide +kernel
theorem dX3_hangAt_12 : decode cX3_hangAt 12 = .ok (.aload_n 0, 1) := by decide +kernel
theorem dX3_hangAt_13 : decode cX3_hangAt 13 = .ok (.getfield 38, 3) := by decide +kernel
theorem dX3_hangAt_16 : decode cX3_hangAt 16 = .ok (.iload_n 2, 1) := by decide +kernel
theorem dX3_hangAt_17 : decode cX3_hangAt 17 = .ok (.invokevirtual 72, 3) := by decide +kernel
theorem dX3_hangAt_20 : decode cX3_hangAt 20 = .ok (.aastore, 1) := by decide +kernel
theorem dX3_hangAt_21 : decode cX3_hangAt 21 = .ok (.return_, 1) := by decide +kernel
theorem dX3_seekOne_0 : decode cX3_seekOne 0 = .ok (.aload_n 0, 1) := by decide +kernel
theorem dX3_seekOne_1 : decode cX3_seekOne 1 = .ok (.aload_n 0, 1) := by decide +kernel
theorem dX3_seekOne_2 : decode cX3_seekOne 2 = .ok (.iconst (-1), 1) := by decide +kernel
theorem dX3_seekOne_3 : decode cX3_seekOne 3 = .ok (.invokevirtual 78, 3) := by decide +kernel
theorem dX3_seekOne_6 : decode cX3_seekOne 6 = .ok (.putfield 28, 3) := by decide +kernel
theorem dX3_seekOne_9 : decode cX3_seekOne 9 = .ok (.aload_n 0, 1) := by decide +kernel
theorem dX3_seekOne_10 : decode cX3_seekOne 10 = .ok (.getfield 28, 3) := by decide +kernel
theorem dX3_seekOne_13 : decode cX3_seekOne 13 = .ok (.bipush (-4), 2) := by decide +kernel
theorem dX3_seekOne_15 : decode cX3_seekOne 15 = .ok (.if_icmp .eq 7, 3) := by decide +kernel
theorem dX3_seekOne_18 : decode cX3_seekOne 18 = .ok (.iconst 1, 1) := by decide +kernel
theorem dX3_seekOne_19 : decode cX3_seekOne 19 = .ok (.goto 4, 3) := by decide +kernel
theorem dX3_seekOne_22 : decode cX3_seekOne 22 = .ok (.iconst 0, 1) := by decide +kernel
theorem dX3_seekOne_23 : decode cX3_seekOne 23 = .ok (.ireturn, 1) := by decide +kernel
theorem dX3_seekTwo_0 : decode cX3_seekTwo 0 = .ok (.iconst 0, 1) := by decide +kernel
theorem dX3_seekTwo_1 : decode cX3_seekTwo 1 = .ok (.istore_n 1, 1) := by decide +kernel
theorem dX3_seekTwo_2 : decode cX3_seekTwo 2 = .ok (.iload_n 1, 1) := by decide +kernel
theorem dX3_seekTwo_3 : decode cX3_seekTwo 3 = .ok (.aload_n 0, 1) := by decide +kernel
theorem dX3_seekTwo_4 : decode cX3_seekTwo 4 = .ok (.getfield 34, 3) := by decide +kernel
theorem dX3_seekTwo_7 : decode cX3_seekTwo 7 = .ok (.getfield 42, 3) := by decide +kernel
theorem dX3_seekTwo_10 : decode cX3_seekTwo 10 = .ok (.getfield 48, 3) := by decide +kernel
theorem dX3_seekTwo_13 : decode cX3_seekTwo 13 = .ok (.if_icmp .ge 34, 3) := by decide +kernel
theorem dX3_seekTwo_16 : decode cX3_seekTwo 16 = .ok (.aload_n 0, 1) := by decide +kernel
theorem dX3_seekTwo_17 : decode cX3_seekTwo 17 = .ok (.getfield 34, 3) := by decide +kernel
theorem dX3_seekTwo_20 : decode cX3_seekTwo 20 = .ok (.getfield 81, 3) := by decide +kernel
theorem dX3_seekTwo_23 : decode cX3_seekTwo 23 = .ok (.getfield 85, 3) := by decide +kernel
theorem dX3_seekTwo_26 : decode cX3_seekTwo 26 = .ok (.iload_n 1, 1) := by decide +kernel
theorem dX3_seekTwo_27 : decode cX3_seekTwo 27 = .ok (.baload, 1) := by decide +kernel
theorem dX3_seekTwo_28 : decode cX3_seekTwo 28 = .ok (.ifCond .ne 13, 3) := by decide +kernel
theorem dX3_seekTwo_31 : decode cX3_seekTwo 31 = .ok (.aload_n 0, 1) := by decide +kernel
theorem dX3_seekTwo_32 : decode cX3_seekTwo 32 = .ok (.iload_n 1, 1) := by decide +kernel
theorem dX3_seekTwo_33 : decode cX3_seekTwo 33 = .ok (.invokevirtual 91, 3) := by decide +kernel
theorem dX3_seekTwo_36 : decode cX3_seekTwo 36 = .ok (.ifCond .eq 5, 3) := by decide +kernel
theorem dX3_seekTwo_39 : decode cX3_seekTwo 39 = .ok (.iconst 1, 1) := by decide +kernel
theorem dX3_seekTwo_40 : decode cX3_seekTwo 40 = .ok (.ireturn, 1) := by decide +kernel
theorem dX3_seekTwo_41 : decode cX3_seekTwo 41 = .ok (.iinc 1 1, 3) := by decide +kernel
theorem dX3_seekTwo_44 : decode cX3_seekTwo 44 = .ok (.goto (-42), 3) := by decide +kernel
theorem dX3_seekTwo_47 : decode cX3_seekTwo 47 = .ok (.iconst 0, 1) := by decide +kernel
theorem dX3_seekTwo_48 : decode cX3_seekTwo 48 = .ok (.ireturn, 1) := by decide +kernel
theorem dX3_seekWith_0 : decode cX3_seekWith 0 = .ok (.aload_n 0, 1) := by decide +kernel
theorem dX3_seekWith_1 : decode cX3_seekWith 1 = .ok (.getfield 9, 3) := by decide +kernel
theorem dX3_seekWith_4 : decode cX3_seekWith 4 = .ok (.iload_n 1, 1) := by decide +kernel
theorem dX3_seekWith_5 : decode cX3_seekWith 5 = .ok (.iaload, 1) := by decide +kernel
theorem dX3_seekWith_6 : decode cX3_seekWith 6 = .ok (.istore_n 2, 1) := by decide +kernel
theorem dX3_seekWith_7 : decode cX3_seekWith 7 = .ok (.iconst 0, 1) := by decide +kernel
theorem dX3_seekWith_8 : decode cX3_seekWith 8 = .ok (.istore_n 3, 1) := by decide +kernel
theorem dX3_seekWith_9 : decode cX3_seekWith 9 = .ok (.iload_n 3, 1) := by decide +kernel
theorem dX3_seekWith_10 : decode cX3_seekWith 10 = .ok (.aload_n 0, 1) := by decide +kernel
theorem dX3_seekWith_11 : decode cX3_seekWith 11 = .ok (.getfield 34, 3) := by decide +kernel
theorem dX3_seekWith_14 : decode cX3_seekWith 14 = .ok (.getfield 42, 3) := by decide +kernel
theorem dX3_seekWith_17 : decode cX3_seekWith 17 = .ok (.getfield 94, 3) := by decide +kernel
theorem dX3_seekWith_20 : decode cX3_seekWith 20 = .ok (.if_icmp .ge 81, 3) := by decide +kernel
theorem dX3_seekWith_23 : decode cX3_seekWith 23 = .ok (.aload_n 0, 1) := by decide +kernel
theorem dX3_seekWith_24 : decode cX3_seekWith 24 = .ok (.iload_n 1, 1) := by decide +kernel
theorem dX3_seekWith_25 : decode cX3_seekWith 25 = .ok (.iload_n 3, 1) := by decide +kernel
theorem dX3_seekWith_26 : decode cX3_seekWith 26 = .ok (.invokevirtual 97, 3) := by decide +kernel
theorem dX3_seekWith_29 : decode cX3_seekWith 29 = .ok (.ifCond .ne 6, 3) := by decide +kernel
theorem dX3_seekWith_32 : decode cX3_seekWith 32 = .ok (.goto 63, 3) := by decide +kernel
theorem dX3_seekWith_35 : decode cX3_seekWith 35 = .ok (.aload_n 0, 1) := by decide +kernel
theorem dX3_seekWith_36 : decode cX3_seekWith 36 = .ok (.iload_n 1, 1) := by decide +kernel
theorem dX3_seekWith_37 : decode cX3_seekWith 37 = .ok (.aload_n 0, 1) := by decide +kernel
theorem dX3_seekWith_38 : decode cX3_seekWith 38 = .ok (.getfield 34, 3) := by decide +kernel
theorem dX3_seekWith_41 : decode cX3_seekWith 41 = .ok (.getfield 42, 3) := by decide +kernel
theorem dX3_seekWith_44 : decode cX3_seekWith 44 = .ok (.getfield 101, 3) := by decide +kernel
theorem dX3_seekWith_47 : decode cX3_seekWith 47 = .ok (.iload_n 1, 1) := by decide +kernel
theorem dX3_seekWith_48 : decode cX3_seekWith 48 = .ok (.iaload, 1) := by decide +kernel
theorem dX3_seekWith_49 : decode cX3_seekWith 49 = .ok (.iload_n 3, 1) := by decide +kernel
theorem dX3_seekWith_50 : decode cX3_seekWith 50 = .ok (.invokestatic 104, 3) := by decide +kernel
theorem dX3_seekWith_53 : decode cX3_seekWith 53 = .ok (.invokevirtual 57, 3) := by decide +kernel
theorem dX3_seekWith_56 : decode cX3_seekWith 56 = .ok (.aload_n 0, 1) := by decide +kernel
theorem dX3_seekWith_57 : decode cX3_seekWith 57 = .ok (.aload_n 0, 1) := by decide +kernel
theorem dX3_seekWith_58 : decode cX3_seekWith 58 = .ok (.iload_n 1, 1) := by decide +kernel
theorem dX3_seekWith_59 : decode cX3_seekWith 59 = .ok (.invokevirtual 78, 3) := by decide +kernel
theorem dX3_seekWith_62 : decode cX3_seekWith 62 = .ok (.putfield 31, 3) := by decide +kernel
theorem dX3_seekWith_65 : decode cX3_seekWith 65 = .ok (.aload_n 0, 1) := by decide +kernel
theorem dX3_seekWith_66 : decode cX3_seekWith 66 = .ok (.iload_n 1, 1) := by decide +kernel
theorem dX3_seekWith_67 : decode cX3_seekWith 67 = .ok (.iload_n 2, 1) := by decide +kernel
theorem dX3_seekWith_68 : decode cX3_seekWith 68 = .ok (.invokevirtual 57, 3) := by decide +kernel
theorem dX3_seekWith_71 : decode cX3_seekWith 71 = .ok (.aload_n 0, 1) := by decide +kernel
theorem dX3_seekWith_72 : decode cX3_seekWith 72 = .ok (.getfield 31, 3) := by decide +kernel
theorem dX3_seekWith_75 : decode cX3_seekWith 75 = .ok (.bipush (-4), 2) := by decide +kernel
theorem dX3_seekWith_77 : decode cX3_seekWith 77 = .ok (.if_icmp .ne 6, 3) := by decide +kernel
theorem dX3_seekWith_80 : decode cX3_seekWith 80 = .ok (.goto 15, 3) := by decide +kernel
theorem dX3_seekWith_83 : decode cX3_seekWith 83 = .ok (.aload_n 0, 1) := by decide +kernel
theorem dX3_seekWith_84 : decode cX3_seekWith 84 = .ok (.bipush 24, 2) := by decide +kernel
theorem dX3_seekWith_86 : decode cX3_seekWith 86 = .ok (.iload_n 1, 1) := by decide +kernel
theorem dX3_seekWith_87 : decode cX3_seekWith 87 = .ok (.imul, 1) := by decide +kernel
theorem dX3_seekWith_88 : decode cX3_seekWith 88 = .ok (.iload_n 3, 1) := by decide +kernel
theorem dX3_seekWith_89 : decode cX3_seekWith 89 = .ok (.iadd, 1) := by decide +kernel
theorem dX3_seekWith_90 : decode cX3_seekWith 90 = .ok (.putfield 28, 3) := by decide +kernel
theorem dX3_seekWith_93 : decode cX3_seekWith 93 = .ok (.iconst 1, 1) := by decide +kernel
theorem dX3_seekWith_94 : decode cX3_seekWith 94 = .ok (.ireturn, 1) := by decide +kernel
theorem dX3_seekWith_95 : decode cX3_seekWith 95 = .ok (.iinc 3 1, 3) := by decide +kernel
theorem dX3_seekWith_98 : decode cX3_seekWith 98 = .ok (.goto (-89), 3) := by decide +kernel
theorem dX3_seekWith_101 : decode cX3_seekWith 101 = .ok (.iconst 0, 1) := by decide +kernel
theorem dX3_seekWith_102 : decode cX3_seekWith 102 = .ok (.ireturn, 1) := by decide +kernel
theorem dX3_seekAbove_0 : decode cX3_seekAbove 0 = .ok (.iload_n 1, 1) := by decide +kernel
theorem dX3_seekAbove_1 : decode cX3_seekAbove 1 = .ok (.iconst 1, 1) := by decide +kernel
theorem dX3_seekAbove_2 : decode cX3_seekAbove 2 = .ok (.iadd, 1) := by decide +kernel
theorem dX3_seekAbove_3 : decode cX3_seekAbove 3 = .ok (.istore_n 2, 1) := by decide +kernel
theorem dX3_seekAbove_4 : decode cX3_seekAbove 4 = .ok (.iload_n 2, 1) := by decide +kernel
theorem dX3_seekAbove_5 : decode cX3_seekAbove 5 = .ok (.aload_n 0, 1) := by decide +kernel
theorem dX3_seekAbove_6 : decode cX3_seekAbove 6 = .ok (.getfield 34, 3) := by decide +kernel
theorem dX3_seekAbove_9 : decode cX3_seekAbove 9 = .ok (.getfield 42, 3) := by decide +kernel
theorem dX3_seekAbove_12 : decode cX3_seekAbove 12 = .ok (.getfield 48, 3) := by decide +kernel
theorem dX3_seekAbove_15 : decode cX3_seekAbove 15 = .ok (.if_icmp .ge 54, 3) := by decide +kernel
theorem dX3_seekAbove_18 : decode cX3_seekAbove 18 = .ok (.aload_n 0, 1) := by decide +kernel
theorem dX3_seekAbove_19 : decode cX3_seekAbove 19 = .ok (.getfield 34, 3) := by decide +kernel
theorem dX3_seekAbove_22 : decode cX3_seekAbove 22 = .ok (.getfield 81, 3) := by decide +kernel
theorem dX3_seekAbove_25 : decode cX3_seekAbove 25 = .ok (.getfield 85, 3) := by decide +kernel
theorem dX3_seekAbove_28 : decode cX3_seekAbove 28 = .ok (.iload_n 2, 1) := by decide +kernel
theorem dX3_seekAbove_29 : decode cX3_seekAbove 29 = .ok (.baload, 1) := by decide +kernel
theorem dX3_seekAbove_30 : decode cX3_seekAbove 30 = .ok (.ifCond .ne 33, 3) := by decide +kernel
theorem dX3_seekAbove_33 : decode cX3_seekAbove 33 = .ok (.aload_n 0, 1) := by decide +kernel
theorem dX3_seekAbove_34 : decode cX3_seekAbove 34 = .ok (.iload_n 2, 1) := by decide +kernel
theorem dX3_seekAbove_35 : decode cX3_seekAbove 35 = .ok (.invokevirtual 61, 3) := by decide +kernel
theorem dX3_seekAbove_38 : decode cX3_seekAbove 38 = .ok (.ifCond .ne 6, 3) := by decide +kernel
theorem dX3_seekAbove_41 : decode cX3_seekAbove 41 = .ok (.goto 22, 3) := by decide +kernel
theorem dX3_seekAbove_44 : decode cX3_seekAbove 44 = .ok (.aload_n 0, 1) := by decide +kernel
theorem dX3_seekAbove_45 : decode cX3_seekAbove 45 = .ok (.iload_n 2, 1) := by decide +kernel
theorem dX3_seekAbove_46 : decode cX3_seekAbove 46 = .ok (.invokevirtual 108, 3) := by decide +kernel
theorem dX3_seekAbove_49 : decode cX3_seekAbove 49 = .ok (.istore_n 3, 1) := by decide +kernel
theorem dX3_seekAbove_50 : decode cX3_seekAbove 50 = .ok (.iload_n 3, 1) := by decide +kernel
theorem dX3_seekAbove_51 : decode cX3_seekAbove 51 = .ok (.bipush (-4), 2) := by decide +kernel
theorem dX3_seekAbove_53 : decode cX3_seekAbove 53 = .ok (.if_icmp .eq 10, 3) := by decide +kernel
theorem dX3_seekAbove_56 : decode cX3_seekAbove 56 = .ok (.bipush 24, 2) := by decide +kernel
theorem dX3_seekAbove_58 : decode cX3_seekAbove 58 = .ok (.iload_n 2, 1) := by decide +kernel
theorem dX3_seekAbove_59 : decode cX3_seekAbove 59 = .ok (.imul, 1) := by decide +kernel
theorem dX3_seekAbove_60 : decode cX3_seekAbove 60 = .ok (.iload_n 3, 1) := by decide +kernel
theorem dX3_seekAbove_61 : decode cX3_seekAbove 61 = .ok (.iadd, 1) := by decide +kernel
theorem dX3_seekAbove_62 : decode cX3_seekAbove 62 = .ok (.ireturn, 1) := by decide +kernel
theorem dX3_seekAbove_63 : decode cX3_seekAbove 63 = .ok (.iinc 2 1, 3) := by decide +kernel
theorem dX3_seekAbove_66 : decode cX3_seekAbove 66 = .ok (.goto (-62), 3) := by decide +kernel
theorem dX3_seekAbove_69 : decode cX3_seekAbove 69 = .ok (.bipush (-4), 2) := by decide +kernel
theorem dX3_seekAbove_71 : decode cX3_seekAbove 71 = .ok (.ireturn, 1) := by decide +kernel
theorem dX3_placeFor_0 : decode cX3_placeFor 0 = .ok (.iconst 0, 1) := by decide +kernel
theorem dX3_placeFor_1 : decode cX3_placeFor 1 = .ok (.istore_n 2, 1) := by decide +kernel
theorem dX3_placeFor_2 : decode cX3_placeFor 2 = .ok (.iload_n 2, 1) := by decide +kernel
theorem dX3_placeFor_3 : decode cX3_placeFor 3 = .ok (.aload_n 0, 1) := by decide +kernel
theorem dX3_placeFor_4 : decode cX3_placeFor 4 = .ok (.getfield 34, 3) := by decide +kernel
theorem dX3_placeFor_7 : decode cX3_placeFor 7 = .ok (.getfield 42, 3) := by decide +kernel
theorem dX3_placeFor_10 : decode cX3_placeFor 10 = .ok (.getfield 94, 3) := by decide +kernel
theorem dX3_placeFor_13 : decode cX3_placeFor 13 = .ok (.if_icmp .ge 44, 3) := by decide +kernel
theorem dX3_placeFor_16 : decode cX3_placeFor 16 = .ok (.aload_n 0, 1) := by decide +kernel
theorem dX3_placeFor_17 : decode cX3_placeFor 17 = .ok (.iload_n 1, 1) := by decide +kernel
theorem dX3_placeFor_18 : decode cX3_placeFor 18 = .ok (.iload_n 2, 1) := by decide +kernel
theorem dX3_placeFor_19 : decode cX3_placeFor 19 = .ok (.invokevirtual 97, 3) := by decide +kernel
theorem dX3_placeFor_22 : decode cX3_placeFor 22 = .ok (.ifCond .eq 29, 3) := by decide +kernel
theorem dX3_placeFor_25 : decode cX3_placeFor 25 = .ok (.aload_n 0, 1) := by decide +kernel
theorem dX3_placeFor_26 : decode cX3_placeFor 26 = .ok (.iload_n 1, 1) := by decide +kernel
theorem dX3_placeFor_27 : decode cX3_placeFor 27 = .ok (.aload_n 0, 1) := by decide +kernel
theorem dX3_placeFor_28 : decode cX3_placeFor 28 = .ok (.getfield 34, 3) := by decide +kernel
theorem dX3_placeFor_31 : decode cX3_placeFor 31 = .ok (.getfield 42, 3) := by decide +kernel
theorem dX3_placeFor_34 : decode cX3_placeFor 34 = .ok (.getfield 101, 3) := by decide +kernel
theorem dX3_placeFor_37 : decode cX3_placeFor 37 = .ok (.iload_n 1, 1) := by decide +kernel
theorem dX3_placeFor_38 : decode cX3_placeFor 38 = .ok (.iaload, 1) := by decide +kernel
theorem dX3_placeFor_39 : decode cX3_placeFor 39 = .ok (.iload_n 2, 1) := by decide +kernel
theorem dX3_placeFor_40 : decode cX3_placeFor 40 = .ok (.invokestatic 104, 3) := by decide +kernel
theorem dX3_placeFor_43 : decode cX3_placeFor 43 = .ok (.invokevirtual 111, 3) := by decide +kernel
theorem dX3_placeFor_46 : decode cX3_placeFor 46 = .ok (.ifCond .eq 5, 3) := by decide +kernel
theorem dX3_placeFor_49 : decode cX3_placeFor 49 = .ok (.iload_n 2, 1) := by decide +kernel
theorem dX3_placeFor_50 : decode cX3_placeFor 50 = .ok (.ireturn, 1) := by decide +kernel
theorem dX3_placeFor_51 : decode cX3_placeFor 51 = .ok (.iinc 2 1, 3) := by decide +kernel
theorem dX3_placeFor_54 : decode cX3_placeFor 54 = .ok (.goto (-52), 3) := by decide +kernel
theorem dX3_placeFor_57 : decode cX3_placeFor 57 = .ok (.bipush (-4), 2) := by decide +kernel
theorem dX3_placeFor_59 : decode cX3_placeFor 59 = .ok (.ireturn, 1) := by decide +kernel
theorem dX3_isFree_0 : decode cX3_isFree 0 = .ok (.aload_n 0, 1) := by decide +kernel
theorem dX3_isFree_1 : decode cX3_isFree 1 = .ok (.getfield 34, 3) := by decide +kernel
theorem dX3_isFree_4 : decode cX3_isFree 4 = .ok (.getfield 42, 3) := by decide +kernel
theorem dX3_isFree_7 : decode cX3_isFree 7 = .ok (.getfield 101, 3) := by decide +kernel
theorem dX3_isFree_10 : decode cX3_isFree 10 = .ok (.iload_n 1, 1) := by decide +kernel
theorem dX3_isFree_11 : decode cX3_isFree 11 = .ok (.iaload, 1) := by decide +kernel
theorem dX3_isFree_12 : decode cX3_isFree 12 = .ok (.iload_n 2, 1) := by decide +kernel
theorem dX3_isFree_13 : decode cX3_isFree 13 = .ok (.invokestatic 104, 3) := by decide +kernel
theorem dX3_isFree_16 : decode cX3_isFree 16 = .ok (.istore_n 3, 1) := by decide +kernel
theorem dX3_isFree_17 : decode cX3_isFree 17 = .ok (.aload_n 0, 1) := by decide +kernel
theorem dX3_isFree_18 : decode cX3_isFree 18 = .ok (.getfield 38, 3) := by decide +kernel
theorem dX3_isFree_21 : decode cX3_isFree 21 = .ok (.iload_n 3, 1) := by decide +kernel
theorem dX3_isFree_22 : decode cX3_isFree 22 = .ok (.invokevirtual 114, 3) := by decide +kernel
theorem dX3_isFree_25 : decode cX3_isFree 25 = .ok (.ifCond .ne 5, 3) := by decide +kernel
theorem dX3_isFree_28 : decode cX3_isFree 28 = .ok (.iconst 0, 1) := by decide +kernel
theorem dX3_isFree_29 : decode cX3_isFree 29 = .ok (.ireturn, 1) := by decide +kernel
theorem dX3_isFree_30 : decode cX3_isFree 30 = .ok (.iconst 0, 1) := by decide +kernel
theorem dX3_isFree_31 : decode cX3_isFree 31 = .ok (.istore 4, 2) := by decide +kernel
theorem dX3_isFree_33 : decode cX3_isFree 33 = .ok (.iload 4, 2) := by decide +kernel
theorem dX3_isFree_35 : decode cX3_isFree 35 = .ok (.aload_n 0, 1) := by decide +kernel
theorem dX3_isFree_36 : decode cX3_isFree 36 = .ok (.getfield 34, 3) := by decide +kernel
theorem dX3_isFree_39 : decode cX3_isFree 39 = .ok (.getfield 42, 3) := by decide +kernel
theorem dX3_isFree_42 : decode cX3_isFree 42 = .ok (.getfield 48, 3) := by decide +kernel
theorem dX3_isFree_45 : decode cX3_isFree 45 = .ok (.if_icmp .ge 38, 3) := by decide +kernel
theorem dX3_isFree_48 : decode cX3_isFree 48 = .ok (.aload_n 0, 1) := by decide +kernel
theorem dX3_isFree_49 : decode cX3_isFree 49 = .ok (.getfield 34, 3) := by decide +kernel
theorem dX3_isFree_52 : decode cX3_isFree 52 = .ok (.getfield 81, 3) := by decide +kernel
theorem dX3_isFree_55 : decode cX3_isFree 55 = .ok (.getfield 85, 3) := by decide +kernel
theorem dX3_isFree_58 : decode cX3_isFree 58 = .ok (.iload 4, 2) := by decide +kernel
theorem dX3_isFree_60 : decode cX3_isFree 60 = .ok (.baload, 1) := by decide +kernel
theorem dX3_isFree_61 : decode cX3_isFree 61 = .ok (.ifCond .ne 16, 3) := by decide +kernel
theorem dX3_isFree_64 : decode cX3_isFree 64 = .ok (.aload_n 0, 1) := by decide +kernel
theorem dX3_isFree_65 : decode cX3_isFree 65 = .ok (.getfield 9, 3) := by decide +kernel
theorem dX3_isFree_68 : decode cX3_isFree 68 = .ok (.iload 4, 2) := by decide +kernel
theorem dX3_isFree_70 : decode cX3_isFree 70 = .ok (.iaload, 1) := by decide +kernel
theorem dX3_isFree_71 : decode cX3_isFree 71 = .ok (.iload_n 3, 1) := by decide +kernel
theorem dX3_isFree_72 : decode cX3_isFree 72 = .ok (.if_icmp .ne 5, 3) := by decide +kernel
theorem dX3_isFree_75 : decode cX3_isFree 75 = .ok (.iconst 0, 1) := by decide +kernel
theorem dX3_isFree_76 : decode cX3_isFree 76 = .ok (.ireturn, 1) := by decide +kernel
theorem dX3_isFree_77 : decode cX3_isFree 77 = .ok (.iinc 4 1, 3) := by decide +kernel
theorem dX3_isFree_80 : decode cX3_isFree 80 = .ok (.goto (-47), 3) := by decide +kernel
theorem dX3_isFree_83 : decode cX3_isFree 83 = .ok (.iconst 1, 1) := by decide +kernel
theorem dX3_isFree_84 : decode cX3_isFree 84 = .ok (.ireturn, 1) := by decide +kernel
theorem dX3_allHear_0 : decode cX3_allHear 0 = .ok (.iconst 1, 1) := by decide +kernel
theorem dX3_allHear_1 : decode cX3_allHear 1 = .ok (.istore_n 2, 1) := by decide +kernel
theorem dX3_allHear_2 : decode cX3_allHear 2 = .ok (.iload_n 2, 1) := by decide +kernel
theorem dX3_allHear_3 : decode cX3_allHear 3 = .ok (.aload_n 0, 1) := by decide +kernel
theorem dX3_allHear_4 : decode cX3_allHear 4 = .ok (.getfield 34, 3) := by decide +kernel
theorem dX3_allHear_7 : decode cX3_allHear 7 = .ok (.getfield 42, 3) := by decide +kernel
theorem dX3_allHear_10 : decode cX3_allHear 10 = .ok (.getfield 48, 3) := by decide +kernel
theorem dX3_allHear_13 : decode cX3_allHear 13 = .ok (.if_icmp .ge 88, 3) := by decide +kernel
theorem dX3_allHear_16 : decode cX3_allHear 16 = .ok (.iload_n 2, 1) := by decide +kernel
theorem dX3_allHear_17 : decode cX3_allHear 17 = .ok (.iload_n 1, 1) := by decide +kernel
theorem dX3_allHear_18 : decode cX3_allHear 18 = .ok (.if_icmp .eq 77, 3) := by decide +kernel
theorem dX3_allHear_21 : decode cX3_allHear 21 = .ok (.aload_n 0, 1) := by decide +kernel
theorem dX3_allHear_22 : decode cX3_allHear 22 = .ok (.getfield 34, 3) := by decide +kernel
theorem dX3_allHear_25 : decode cX3_allHear 25 = .ok (.getfield 81, 3) := by decide +kernel
theorem dX3_allHear_28 : decode cX3_allHear 28 = .ok (.getfield 85, 3) := by decide +kernel
theorem dX3_allHear_31 : decode cX3_allHear 31 = .ok (.iload_n 2, 1) := by decide +kernel
theorem dX3_allHear_32 : decode cX3_allHear 32 = .ok (.baload, 1) := by decide +kernel
theorem dX3_allHear_33 : decode cX3_allHear 33 = .ok (.ifCond .eq 6, 3) := by decide +kernel
theorem dX3_allHear_36 : decode cX3_allHear 36 = .ok (.goto 59, 3) := by decide +kernel
theorem dX3_allHear_39 : decode cX3_allHear 39 = .ok (.iconst 0, 1) := by decide +kernel
theorem dX3_allHear_40 : decode cX3_allHear 40 = .ok (.istore_n 3, 1) := by decide +kernel
theorem dX3_allHear_41 : decode cX3_allHear 41 = .ok (.iload_n 3, 1) := by decide +kernel
theorem dX3_allHear_42 : decode cX3_allHear 42 = .ok (.iload_n 2, 1) := by decide +kernel
theorem dX3_allHear_43 : decode cX3_allHear 43 = .ok (.if_icmp .ge 52, 3) := by decide +kernel
theorem dX3_allHear_46 : decode cX3_allHear 46 = .ok (.iload_n 3, 1) := by decide +kernel
theorem dX3_allHear_47 : decode cX3_allHear 47 = .ok (.iload_n 1, 1) := by decide +kernel
theorem dX3_allHear_48 : decode cX3_allHear 48 = .ok (.if_icmp .eq 41, 3) := by decide +kernel
theorem dX3_allHear_51 : decode cX3_allHear 51 = .ok (.aload_n 0, 1) := by decide +kernel
theorem dX3_allHear_52 : decode cX3_allHear 52 = .ok (.getfield 34, 3) := by decide +kernel
theorem dX3_allHear_55 : decode cX3_allHear 55 = .ok (.getfield 81, 3) := by decide +kernel
theorem dX3_allHear_58 : decode cX3_allHear 58 = .ok (.getfield 85, 3) := by decide +kernel
theorem dX3_allHear_61 : decode cX3_allHear 61 = .ok (.iload_n 3, 1) := by decide +kernel
theorem dX3_allHear_62 : decode cX3_allHear 62 = .ok (.baload, 1) := by decide +kernel
theorem dX3_allHear_63 : decode cX3_allHear 63 = .ok (.ifCond .eq 6, 3) := by decide +kernel
theorem dX3_allHear_66 : decode cX3_allHear 66 = .ok (.goto 23, 3) := by decide +kernel
theorem dX3_allHear_69 : decode cX3_allHear 69 = .ok (.aload_n 0, 1) := by decide +kernel
theorem dX3_allHear_70 : decode cX3_allHear 70 = .ok (.iload_n 3, 1) := by decide +kernel
theorem dX3_allHear_71 : decode cX3_allHear 71 = .ok (.aload_n 0, 1) := by decide +kernel
theorem dX3_allHear_72 : decode cX3_allHear 72 = .ok (.getfield 9, 3) := by decide +kernel
theorem dX3_allHear_75 : decode cX3_allHear 75 = .ok (.iload_n 2, 1) := by decide +kernel
theorem dX3_allHear_76 : decode cX3_allHear 76 = .ok (.iaload, 1) := by decide +kernel
theorem dX3_allHear_77 : decode cX3_allHear 77 = .ok (.invokevirtual 117, 3) := by decide +kernel
theorem dX3_allHear_80 : decode cX3_allHear 80 = .ok (.aload_n 0, 1) := by decide +kernel
theorem dX3_allHear_81 : decode cX3_allHear 81 = .ok (.getfield 21, 3) := by decide +kernel
theorem dX3_allHear_84 : decode cX3_allHear 84 = .ok (.if_icmp .le 5, 3) := by decide +kernel
theorem dX3_allHear_87 : decode cX3_allHear 87 = .ok (.iconst 0, 1) := by decide +kernel
theorem dX3_allHear_88 : decode cX3_allHear 88 = .ok (.ireturn, 1) := by decide +kernel
theorem dX3_allHear_89 : decode cX3_allHear 89 = .ok (.iinc 3 1, 3) := by decide +kernel
theorem dX3_allHear_92 : decode cX3_allHear 92 = .ok (.goto (-51), 3) := by decide +kernel
theorem dX3_allHear_95 : decode cX3_allHear 95 = .ok (.iinc 2 1, 3) := by decide +kernel
theorem dX3_allHear_98 : decode cX3_allHear 98 = .ok (.goto (-96), 3) := by decide +kernel
theorem dX3_allHear_101 : decode cX3_allHear 101 = .ok (.iconst 1, 1) := by decide +kernel
theorem dX3_allHear_102 : decode cX3_allHear 102 = .ok (.ireturn, 1) := by decide +kernel
theorem dX3_allHearAt_0 : decode cX3_allHearAt 0 = .ok (.iconst 0, 1) := by decide +kernel
theorem dX3_allHearAt_1 : decode cX3_allHearAt 1 = .ok (.istore_n 3, 1) := by decide +kernel
theorem dX3_allHearAt_2 : decode cX3_allHearAt 2 = .ok (.iload_n 3, 1) := by decide +kernel
theorem dX3_allHearAt_3 : decode cX3_allHearAt 3 = .ok (.aload_n 0, 1) := by decide +kernel
theorem dX3_allHearAt_4 : decode cX3_allHearAt 4 = .ok (.getfield 34, 3) := by decide +kernel
theorem dX3_allHearAt_7 : decode cX3_allHearAt 7 = .ok (.getfield 42, 3) := by decide +kernel
theorem dX3_allHearAt_10 : decode cX3_allHearAt 10 = .ok (.getfield 48, 3) := by decide +kernel
theorem dX3_allHearAt_13 : decode cX3_allHearAt 13 = .ok (.if_icmp .ge 47, 3) := by decide +kernel
theorem dX3_allHearAt_16 : decode cX3_allHearAt 16 = .ok (.iload_n 3, 1) := by decide +kernel
theorem dX3_allHearAt_17 : decode cX3_allHearAt 17 = .ok (.iload_n 1, 1) := by decide +kernel
theorem dX3_allHearAt_18 : decode cX3_allHearAt 18 = .ok (.if_icmp .eq 36, 3) := by decide +kernel
theorem dX3_allHearAt_21 : decode cX3_allHearAt 21 = .ok (.aload_n 0, 1) := by decide +kernel
theorem dX3_allHearAt_22 : decode cX3_allHearAt 22 = .ok (.getfield 34, 3) := by decide +kernel
theorem dX3_allHearAt_25 : decode cX3_allHearAt 25 = .ok (.getfield 81, 3) := by decide +kernel
theorem dX3_allHearAt_28 : decode cX3_allHearAt 28 = .ok (.getfield 85, 3) := by decide +kernel
theorem dX3_allHearAt_31 : decode cX3_allHearAt 31 = .ok (.iload_n 3, 1) := by decide +kernel
theorem dX3_allHearAt_32 : decode cX3_allHearAt 32 = .ok (.baload, 1) := by decide +kernel
theorem dX3_allHearAt_33 : decode cX3_allHearAt 33 = .ok (.ifCond .eq 6, 3) := by decide +kernel
theorem dX3_allHearAt_36 : decode cX3_allHearAt 36 = .ok (.goto 18, 3) := by decide +kernel
theorem dX3_allHearAt_39 : decode cX3_allHearAt 39 = .ok (.aload_n 0, 1) := by decide +kernel
theorem dX3_allHearAt_40 : decode cX3_allHearAt 40 = .ok (.iload_n 3, 1) := by decide +kernel
theorem dX3_allHearAt_41 : decode cX3_allHearAt 41 = .ok (.iload_n 2, 1) := by decide +kernel
theorem dX3_allHearAt_42 : decode cX3_allHearAt 42 = .ok (.invokevirtual 117, 3) := by decide +kernel
theorem dX3_allHearAt_45 : decode cX3_allHearAt 45 = .ok (.aload_n 0, 1) := by decide +kernel
theorem dX3_allHearAt_46 : decode cX3_allHearAt 46 = .ok (.getfield 21, 3) := by decide +kernel
theorem dX3_allHearAt_49 : decode cX3_allHearAt 49 = .ok (.if_icmp .le 5, 3) := by decide +kernel
theorem dX3_allHearAt_52 : decode cX3_allHearAt 52 = .ok (.iconst 0, 1) := by decide +kernel
theorem dX3_allHearAt_53 : decode cX3_allHearAt 53 = .ok (.ireturn, 1) := by decide +kernel
theorem dX3_allHearAt_54 : decode cX3_allHearAt 54 = .ok (.iinc 3 1, 3) := by decide +kernel
theorem dX3_allHearAt_57 : decode cX3_allHearAt 57 = .ok (.goto (-55), 3) := by decide +kernel
theorem dX3_allHearAt_60 : decode cX3_allHearAt 60 = .ok (.iconst 1, 1) := by decide +kernel
theorem dX3_allHearAt_61 : decode cX3_allHearAt 61 = .ok (.ireturn, 1) := by decide +kernel
theorem dX3_beatsFrom_0 : decode cX3_beatsFrom 0 = .ok (.aload_n 0, 1) := by decide +kernel
theorem dX3_beatsFrom_1 : decode cX3_beatsFrom 1 = .ok (.getfield 17, 3) := by decide +kernel
theorem dX3_beatsFrom_4 : decode cX3_beatsFrom 4 = .ok (.iload_n 1, 1) := by decide +kernel
theorem dX3_beatsFrom_5 : decode cX3_beatsFrom 5 = .ok (.aaload, 1) := by decide +kernel
theorem dX3_beatsFrom_6 : decode cX3_beatsFrom 6 = .ok (.astore_n 3, 1) := by decide +kernel
theorem dX3_beatsFrom_7 : decode cX3_beatsFrom 7 = .ok (.aload_n 3, 1) := by decide +kernel
theorem dX3_beatsFrom_8 : decode cX3_beatsFrom 8 = .ok (.ifnull 23, 3) := by decide +kernel
theorem dX3_beatsFrom_11 : decode cX3_beatsFrom 11 = .ok (.iload_n 2, 1) := by decide +kernel
theorem dX3_beatsFrom_12 : decode cX3_beatsFrom 12 = .ok (.ifCond .lt 19, 3) := by decide +kernel
theorem dX3_beatsFrom_15 : decode cX3_beatsFrom 15 = .ok (.iload_n 2, 1) := by decide +kernel
theorem dX3_beatsFrom_16 : decode cX3_beatsFrom 16 = .ok (.sipush 192, 3) := by decide +kernel
theorem dX3_beatsFrom_19 : decode cX3_beatsFrom 19 = .ok (.if_icmp .ge 12, 3) := by decide +kernel
theorem dX3_beatsFrom_22 : decode cX3_beatsFrom 22 = .ok (.aload_n 3, 1) := by decide +kernel
theorem dX3_beatsFrom_23 : decode cX3_beatsFrom 23 = .ok (.getfield 120, 3) := by decide +kernel
theorem dX3_beatsFrom_26 : decode cX3_beatsFrom 26 = .ok (.iload_n 2, 1) := by decide +kernel
theorem dX3_beatsFrom_27 : decode cX3_beatsFrom 27 = .ok (.iaload, 1) := by decide +kernel
theorem dX3_beatsFrom_28 : decode cX3_beatsFrom 28 = .ok (.goto 5, 3) := by decide +kernel
theorem dX3_beatsFrom_31 : decode cX3_beatsFrom 31 = .ok (.ldc 123, 2) := by decide +kernel
theorem dX3_beatsFrom_33 : decode cX3_beatsFrom 33 = .ok (.ireturn, 1) := by decide +kernel
theorem dX4_init_0 : decode cX4_init 0 = .ok (.aload_n 0, 1) := by decide +kernel
theorem dX4_init_1 : decode cX4_init 1 = .ok (.invokespecial 1, 3) := by decide +kernel
theorem dX4_init_4 : decode cX4_init 4 = .ok (.aload_n 0, 1) := by decide +kernel
theorem dX4_init_5 : decode cX4_init 5 = .ok (.iconst 0, 1) := by decide +kernel
theorem dX4_init_6 : decode cX4_init 6 = .ok (.putfield 7, 3) := by decide +kernel
theorem dX4_init_9 : decode cX4_init 9 = .ok (.aload_n 0, 1) := by decide +kernel
theorem dX4_init_10 : decode cX4_init 10 = .ok (.iconst 0, 1) := by decide +kernel
theorem dX4_init_11 : decode cX4_init 11 = .ok (.putfield 13, 3) := by decide +kernel
theorem dX4_init_14 : decode cX4_init 14 = .ok (.aload_n 0, 1) := by decide +kernel
theorem dX4_init_15 : decode cX4_init 15 = .ok (.iconst 1, 1) := by decide +kernel
theorem dX4_init_16 : decode cX4_init 16 = .ok (.iload_n 1, 1) := by decide +kernel
theorem dX4_init_17 : decode cX4_init 17 = .ok (.invokestatic 16, 3) := by decide +kernel
theorem dX4_init_20 : decode cX4_init 20 = .ok (.anewarray 22, 3) := by decide +kernel
theorem dX4_init_23 : decode cX4_init 23 = .ok (.putfield 24, 3) := by decide +kernel
theorem dX4_init_26 : decode cX4_init 26 = .ok (.iconst 0, 1) := by decide +kernel
theorem dX4_init_27 : decode cX4_init 27 = .ok (.istore_n 2, 1) := by decide +kernel
theorem dX4_init_28 : decode cX4_init 28 = .ok (.iload_n 2, 1) := by decide +kernel
theorem dX4_init_29 : decode cX4_init 29 = .ok (.aload_n 0, 1) := by decide +kernel
theorem dX4_init_30 : decode cX4_init 30 = .ok (.getfield 24, 3) := by decide +kernel
theorem dX4_init_33 : decode cX4_init 33 = .ok (.arraylength, 1) := by decide +kernel
theorem dX4_init_34 : decode cX4_init 34 = .ok (.if_icmp .ge 22, 3) := by decide +kernel
theorem dX4_init_37 : decode cX4_init 37 = .ok (.aload_n 0, 1) := by decide +kernel
theorem dX4_init_38 : decode cX4_init 38 = .ok (.getfield 24, 3) := by decide +kernel
theorem dX4_init_41 : decode cX4_init 41 = .ok (.iload_n 2, 1) := by decide +kernel
theorem dX4_init_42 : decode cX4_init 42 = .ok (.new 22, 3) := by decide +kernel
theorem dX4_init_45 : decode cX4_init 45 = .ok (.dup, 1) := by decide +kernel
theorem dX4_init_46 : decode cX4_init 46 = .ok (.invokespecial 28, 3) := by decide +kernel
theorem dX4_init_49 : decode cX4_init 49 = .ok (.aastore, 1) := by decide +kernel
theorem dX4_init_50 : decode cX4_init 50 = .ok (.iinc 2 1, 3) := by decide +kernel
theorem dX4_init_53 : decode cX4_init 53 = .ok (.goto (-25), 3) := by decide +kernel
theorem dX4_init_56 : decode cX4_init 56 = .ok (.return_, 1) := by decide +kernel
theorem dX4_empty_0 : decode cX4_empty 0 = .ok (.aload_n 0, 1) := by decide +kernel
theorem dX4_empty_1 : decode cX4_empty 1 = .ok (.iconst 0, 1) := by decide +kernel
theorem dX4_empty_2 : decode cX4_empty 2 = .ok (.putfield 7, 3) := by decide +kernel
theorem dX4_empty_5 : decode cX4_empty 5 = .ok (.aload_n 0, 1) := by decide +kernel
theorem dX4_empty_6 : decode cX4_empty 6 = .ok (.iconst 0, 1) := by decide +kernel
theorem dX4_empty_7 : decode cX4_empty 7 = .ok (.putfield 13, 3) := by decide +kernel
theorem dX4_empty_10 : decode cX4_empty 10 = .ok (.return_, 1) := by decide +kernel
theorem dX4_push_0 : decode cX4_push 0 = .ok (.aload_n 0, 1) := by decide +kernel
theorem dX4_push_1 : decode cX4_push 1 = .ok (.getfield 13, 3) := by decide +kernel
theorem dX4_push_4 : decode cX4_push 4 = .ok (.aload_n 0, 1) := by decide +kernel
theorem dX4_push_5 : decode cX4_push 5 = .ok (.getfield 24, 3) := by decide +kernel
theorem dX4_push_8 : decode cX4_push 8 = .ok (.arraylength, 1) := by decide +kernel
theorem dX4_push_9 : decode cX4_push 9 = .ok (.if_icmp .lt 22, 3) := by decide +kernel
theorem dX4_push_12 : decode cX4_push 12 = .ok (.aload_n 0, 1) := by decide +kernel
theorem dX4_push_13 : decode cX4_push 13 = .ok (.aload_n 0, 1) := by decide +kernel
theorem dX4_push_14 : decode cX4_push 14 = .ok (.iconst 1, 1) := by decide +kernel
theorem dX4_push_15 : decode cX4_push 15 = .ok (.invokevirtual 29, 3) := by decide +kernel
theorem dX4_push_18 : decode cX4_push 18 = .ok (.putfield 7, 3) := by decide +kernel
theorem dX4_push_21 : decode cX4_push 21 = .ok (.aload_n 0, 1) := by decide +kernel
theorem dX4_push_22 : decode cX4_push 22 = .ok (.dup, 1) := by decide +kernel
theorem dX4_push_23 : decode cX4_push 23 = .ok (.getfield 13, 3) := by decide +kernel
theorem dX4_push_26 : decode cX4_push 26 = .ok (.iconst 1, 1) := by decide +kernel
theorem dX4_push_27 : decode cX4_push 27 = .ok (.isub, 1) := by decide +kernel
theorem dX4_push_28 : decode cX4_push 28 = .ok (.putfield 13, 3) := by decide +kernel
theorem dX4_push_31 : decode cX4_push 31 = .ok (.aload_n 0, 1) := by decide +kernel
theorem dX4_push_32 : decode cX4_push 32 = .ok (.getfield 24, 3) := by decide +kernel
theorem dX4_push_35 : decode cX4_push 35 = .ok (.aload_n 0, 1) := by decide +kernel
theorem dX4_push_36 : decode cX4_push 36 = .ok (.aload_n 0, 1) := by decide +kernel
theorem dX4_push_37 : decode cX4_push 37 = .ok (.getfield 13, 3) := by decide +kernel
theorem dX4_push_40 : decode cX4_push 40 = .ok (.invokevirtual 29, 3) := by decide +kernel
theorem dX4_push_43 : decode cX4_push 43 = .ok (.aaload, 1) := by decide +kernel
theorem dX4_push_44 : decode cX4_push 44 = .ok (.aload_n 1, 1) := by decide +kernel
theorem dX4_push_45 : decode cX4_push 45 = .ok (.invokevirtual 33, 3) := by decide +kernel
theorem dX4_push_48 : decode cX4_push 48 = .ok (.aload_n 0, 1) := by decide +kernel
theorem dX4_push_49 : decode cX4_push 49 = .ok (.dup, 1) := by decide +kernel
theorem dX4_push_50 : decode cX4_push 50 = .ok (.getfield 13, 3) := by decide +kernel
theorem dX4_push_53 : decode cX4_push 53 = .ok (.iconst 1, 1) := by decide +kernel
theorem dX4_push_54 : decode cX4_push 54 = .ok (.iadd, 1) := by decide +kernel
theorem dX4_push_55 : decode cX4_push 55 = .ok (.putfield 13, 3) := by decide +kernel
theorem dX4_push_58 : decode cX4_push 58 = .ok (.return_, 1) := by decide +kernel
theorem dX4_pop_0 : decode cX4_pop 0 = .ok (.aload_n 0, 1) := by decide +kernel
theorem dX4_pop_1 : decode cX4_pop 1 = .ok (.getfield 13, 3) := by decide +kernel
theorem dX4_pop_4 : decode cX4_pop 4 = .ok (.iconst 1, 1) := by decide +kernel
theorem dX4_pop_5 : decode cX4_pop 5 = .ok (.if_icmp .ge 5, 3) := by decide +kernel
theorem dX4_pop_8 : decode cX4_pop 8 = .ok (.iconst 0, 1) := by decide +kernel
theorem dX4_pop_9 : decode cX4_pop 9 = .ok (.ireturn, 1) := by decide +kernel
theorem dX4_pop_10 : decode cX4_pop 10 = .ok (.aload_n 0, 1) := by decide +kernel
theorem dX4_pop_11 : decode cX4_pop 11 = .ok (.dup, 1) := by decide +kernel
theorem dX4_pop_12 : decode cX4_pop 12 = .ok (.getfield 13, 3) := by decide +kernel
theorem dX4_pop_15 : decode cX4_pop 15 = .ok (.iconst 1, 1) := by decide +kernel
theorem dX4_pop_16 : decode cX4_pop 16 = .ok (.isub, 1) := by decide +kernel
theorem dX4_pop_17 : decode cX4_pop 17 = .ok (.putfield 13, 3) := by decide +kernel
theorem dX4_pop_20 : decode cX4_pop 20 = .ok (.aload_n 1, 1) := by decide +kernel
theorem dX4_pop_21 : decode cX4_pop 21 = .ok (.aload_n 0, 1) := by decide +kernel
theorem dX4_pop_22 : decode cX4_pop 22 = .ok (.getfield 24, 3) := by decide +kernel
theorem dX4_pop_25 : decode cX4_pop 25 = .ok (.aload_n 0, 1) := by decide +kernel
theorem dX4_pop_26 : decode cX4_pop 26 = .ok (.aload_n 0, 1) := by decide +kernel
theorem dX4_pop_27 : decode cX4_pop 27 = .ok (.getfield 13, 3) := by decide +kernel
theorem dX4_pop_30 : decode cX4_pop 30 = .ok (.invokevirtual 29, 3) := by decide +kernel
theorem dX4_pop_33 : decode cX4_pop 33 = .ok (.aaload, 1) := by decide +kernel
theorem dX4_pop_34 : decode cX4_pop 34 = .ok (.invokevirtual 33, 3) := by decide +kernel
theorem dX4_pop_37 : decode cX4_pop 37 = .ok (.iconst 1, 1) := by decide +kernel
theorem dX4_pop_38 : decode cX4_pop 38 = .ok (.ireturn, 1) := by decide +kernel
theorem dX4_slot_0 : decode cX4_slot 0 = .ok (.aload_n 0, 1) := by decide +kernel
theorem dX4_slot_1 : decode cX4_slot 1 = .ok (.getfield 7, 3) := by decide +kernel
theorem dX4_slot_4 : decode cX4_slot 4 = .ok (.iload_n 1, 1) := by decide +kernel
theorem dX4_slot_5 : decode cX4_slot 5 = .ok (.iadd, 1) := by decide +kernel
theorem dX4_slot_6 : decode cX4_slot 6 = .ok (.istore_n 2, 1) := by decide +kernel
theorem dX4_slot_7 : decode cX4_slot 7 = .ok (.iload_n 2, 1) := by decide +kernel
theorem dX4_slot_8 : decode cX4_slot 8 = .ok (.aload_n 0, 1) := by decide +kernel
theorem dX4_slot_9 : decode cX4_slot 9 = .ok (.getfield 24, 3) := by decide +kernel
theorem dX4_slot_12 : decode cX4_slot 12 = .ok (.arraylength, 1) := by decide +kernel
theorem dX4_slot_13 : decode cX4_slot 13 = .ok (.if_icmp .ge 7, 3) := by decide +kernel
theorem dX4_slot_16 : decode cX4_slot 16 = .ok (.iload_n 2, 1) := by decide +kernel
theorem dX4_slot_17 : decode cX4_slot 17 = .ok (.goto 10, 3) := by decide +kernel
theorem dX4_slot_20 : decode cX4_slot 20 = .ok (.iload_n 2, 1) := by decide +kernel
theorem dX4_slot_21 : decode cX4_slot 21 = .ok (.aload_n 0, 1) := by decide +kernel
theorem dX4_slot_22 : decode cX4_slot 22 = .ok (.getfield 24, 3) := by decide +kernel
theorem dX4_slot_25 : decode cX4_slot 25 = .ok (.arraylength, 1) := by decide +kernel
theorem dX4_slot_26 : decode cX4_slot 26 = .ok (.isub, 1) := by decide +kernel
theorem dX4_slot_27 : decode cX4_slot 27 = .ok (.ireturn, 1) := by decide +kernel
theorem dX5_init_0 : decode cX5_init 0 = .ok (.aload_n 0, 1) := by decide +kernel
theorem dX5_init_1 : decode cX5_init 1 = .ok (.invokespecial 3, 3) := by decide +kernel
theorem dX5_init_4 : decode cX5_init 4 = .ok (.aload_n 0, 1) := by decide +kernel
theorem dX5_init_5 : decode cX5_init 5 = .ok (.sipush 192, 3) := by decide +kernel
theorem dX5_init_8 : decode cX5_init 8 = .ok (.newarray .int, 2) := by decide +kernel
theorem dX5_init_10 : decode cX5_init 10 = .ok (.putfield 9, 3) := by decide +kernel
theorem dX5_init_13 : decode cX5_init 13 = .ok (.aload_n 0, 1) := by decide +kernel
theorem dX5_init_14 : decode cX5_init 14 = .ok (.iconst 0, 1) := by decide +kernel
theorem dX5_init_15 : decode cX5_init 15 = .ok (.putfield 15, 3) := by decide +kernel
theorem dX5_init_18 : decode cX5_init 18 = .ok (.return_, 1) := by decide +kernel
theorem dX5_silence_0 : decode cX5_silence 0 = .ok (.iconst 0, 1) := by decide +kernel
theorem dX5_silence_1 : decode cX5_silence 1 = .ok (.istore_n 1, 1) := by decide +kernel
theorem dX5_silence_2 : decode cX5_silence 2 = .ok (.iload_n 1, 1) := by decide +kernel
theorem dX5_silence_3 : decode cX5_silence 3 = .ok (.sipush 192, 3) := by decide +kernel
theorem dX5_silence_6 : decode cX5_silence 6 = .ok (.if_icmp .ge 17, 3) := by decide +kernel
theorem dX5_silence_9 : decode cX5_silence 9 = .ok (.aload_n 0, 1) := by decide +kernel
theorem dX5_silence_10 : decode cX5_silence 10 = .ok (.getfield 9, 3) := by decide +kernel
theorem dX5_silence_13 : decode cX5_silence 13 = .ok (.iload_n 1, 1) := by decide +kernel
theorem dX5_silence_14 : decode cX5_silence 14 = .ok (.ldc 19, 2) := by decide +kernel
theorem dX5_silence_16 : decode cX5_silence 16 = .ok (.iastore, 1) := by decide +kernel
theorem dX5_silence_17 : decode cX5_silence 17 = .ok (.iinc 1 1, 3) := by decide +kernel
theorem dX5_silence_20 : decode cX5_silence 20 = .ok (.goto (-18), 3) := by decide +kernel
theorem dX5_silence_23 : decode cX5_silence 23 = .ok (.return_, 1) := by decide +kernel
theorem dX5_beatsTo_0 : decode cX5_beatsTo 0 = .ok (.iload_n 1, 1) := by decide +kernel
theorem dX5_beatsTo_1 : decode cX5_beatsTo 1 = .ok (.ifCond .lt 19, 3) := by decide +kernel
theorem dX5_beatsTo_4 : decode cX5_beatsTo 4 = .ok (.iload_n 1, 1) := by decide +kernel
theorem dX5_beatsTo_5 : decode cX5_beatsTo 5 = .ok (.sipush 192, 3) := by decide +kernel
theorem dX5_beatsTo_8 : decode cX5_beatsTo 8 = .ok (.if_icmp .ge 12, 3) := by decide +kernel
theorem dX5_beatsTo_11 : decode cX5_beatsTo 11 = .ok (.aload_n 0, 1) := by decide +kernel
theorem dX5_beatsTo_12 : decode cX5_beatsTo 12 = .ok (.getfield 9, 3) := by decide +kernel
theorem dX5_beatsTo_15 : decode cX5_beatsTo 15 = .ok (.iload_n 1, 1) := by decide +kernel
theorem dX5_beatsTo_16 : decode cX5_beatsTo 16 = .ok (.iaload, 1) := by decide +kernel
theorem dX5_beatsTo_17 : decode cX5_beatsTo 17 = .ok (.goto 5, 3) := by decide +kernel
theorem dX5_beatsTo_20 : decode cX5_beatsTo 20 = .ok (.ldc 19, 2) := by decide +kernel
theorem dX5_beatsTo_22 : decode cX5_beatsTo 22 = .ok (.ireturn, 1) := by decide +kernel
theorem dX6_init_0 : decode cX6_init 0 = .ok (.aload_n 0, 1) := by decide +kernel
theorem dX6_init_1 : decode cX6_init 1 = .ok (.invokespecial 3, 3) := by decide +kernel
theorem dX6_init_4 : decode cX6_init 4 = .ok (.aload_n 0, 1) := by decide +kernel
theorem dX6_init_5 : decode cX6_init 5 = .ok (.new 9, 3) := by decide +kernel
theorem dX6_init_8 : decode cX6_init 8 = .ok (.dup, 1) := by decide +kernel
theorem dX6_init_9 : decode cX6_init 9 = .ok (.invokespecial 11, 3) := by decide +kernel
theorem dX6_init_12 : decode cX6_init 12 = .ok (.putfield 12, 3) := by decide +kernel
theorem dX6_init_15 : decode cX6_init 15 = .ok (.aload_n 0, 1) := by decide +kernel
theorem dX6_init_16 : decode cX6_init 16 = .ok (.new 18, 3) := by decide +kernel
theorem dX6_init_19 : decode cX6_init 19 = .ok (.dup, 1) := by decide +kernel
theorem dX6_init_20 : decode cX6_init 20 = .ok (.invokespecial 20, 3) := by decide +kernel
theorem dX6_init_23 : decode cX6_init 23 = .ok (.putfield 21, 3) := by decide +kernel
theorem dX6_init_26 : decode cX6_init 26 = .ok (.return_, 1) := by decide +kernel
theorem dX6_start_0 : decode cX6_start 0 = .ok (.aload_n 0, 1) := by decide +kernel
theorem dX6_start_1 : decode cX6_start 1 = .ok (.getfield 21, 3) := by decide +kernel
theorem dX6_start_4 : decode cX6_start 4 = .ok (.aload_n 0, 1) := by decide +kernel
theorem dX6_start_5 : decode cX6_start 5 = .ok (.getfield 12, 3) := by decide +kernel
theorem dX6_start_8 : decode cX6_start 8 = .ok (.invokevirtual 25, 3) := by decide +kernel
theorem dX6_start_11 : decode cX6_start 11 = .ok (.return_, 1) := by decide +kernel
theorem dX6_isLevel_0 : decode cX6_isLevel 0 = .ok (.iload_n 1, 1) := by decide +kernel
theorem dX6_isLevel_1 : decode cX6_isLevel 1 = .ok (.ifCond .lt 18, 3) := by decide +kernel
theorem dX6_isLevel_4 : decode cX6_isLevel 4 = .ok (.iload_n 1, 1) := by decide +kernel
theorem dX6_isLevel_5 : decode cX6_isLevel 5 = .ok (.aload_n 0, 1) := by decide +kernel
theorem dX6_isLevel_6 : decode cX6_isLevel 6 = .ok (.getfield 12, 3) := by decide +kernel
theorem dX6_isLevel_9 : decode cX6_isLevel 9 = .ok (.getfield 29, 3) := by decide +kernel
theorem dX6_isLevel_12 : decode cX6_isLevel 12 = .ok (.if_icmp .ge 7, 3) := by decide +kernel
theorem dX6_isLevel_15 : decode cX6_isLevel 15 = .ok (.iconst 1, 1) := by decide +kernel
theorem dX6_isLevel_16 : decode cX6_isLevel 16 = .ok (.goto 4, 3) := by decide +kernel
theorem dX6_isLevel_19 : decode cX6_isLevel 19 = .ok (.iconst 0, 1) := by decide +kernel
theorem dX6_isLevel_20 : decode cX6_isLevel 20 = .ok (.ireturn, 1) := by decide +kernel
theorem dX6_isPlace_0 : decode cX6_isPlace 0 = .ok (.iload_n 1, 1) := by decide +kernel
theorem dX6_isPlace_1 : decode cX6_isPlace 1 = .ok (.ifCond .lt 18, 3) := by decide +kernel
theorem dX6_isPlace_4 : decode cX6_isPlace 4 = .ok (.iload_n 1, 1) := by decide +kernel
theorem dX6_isPlace_5 : decode cX6_isPlace 5 = .ok (.aload_n 0, 1) := by decide +kernel
theorem dX6_isPlace_6 : decode cX6_isPlace 6 = .ok (.getfield 12, 3) := by decide +kernel
theorem dX6_isPlace_9 : decode cX6_isPlace 9 = .ok (.getfield 33, 3) := by decide +kernel
theorem dX6_isPlace_12 : decode cX6_isPlace 12 = .ok (.if_icmp .ge 7, 3) := by decide +kernel
theorem dX6_isPlace_15 : decode cX6_isPlace 15 = .ok (.iconst 1, 1) := by decide +kernel
theorem dX6_isPlace_16 : decode cX6_isPlace 16 = .ok (.goto 4, 3) := by decide +kernel
theorem dX6_isPlace_19 : decode cX6_isPlace 19 = .ok (.iconst 0, 1) := by decide +kernel
theorem dX6_isPlace_20 : decode cX6_isPlace 20 = .ok (.ireturn, 1) := by decide +kernel
theorem dX6_isTown_0 : decode cX6_isTown 0 = .ok (.iload_n 1, 1) := by decide +kernel
theorem dX6_isTown_1 : decode cX6_isTown 1 = .ok (.ifCond .lt 18, 3) := by decide +kernel
theorem dX6_isTown_4 : decode cX6_isTown 4 = .ok (.iload_n 1, 1) := by decide +kernel
theorem dX6_isTown_5 : decode cX6_isTown 5 = .ok (.aload_n 0, 1) := by decide +kernel
theorem dX6_isTown_6 : decode cX6_isTown 6 = .ok (.getfield 12, 3) := by decide +kernel
theorem dX6_isTown_9 : decode cX6_isTown 9 = .ok (.getfield 36, 3) := by decide +kernel
theorem dX6_isTown_12 : decode cX6_isTown 12 = .ok (.if_icmp .ge 7, 3) := by decide +kernel
theorem dX6_isTown_15 : decode cX6_isTown 15 = .ok (.iconst 1, 1) := by decide +kernel
theorem dX6_isTown_16 : decode cX6_isTown 16 = .ok (.goto 4, 3) := by decide +kernel
theorem dX6_isTown_19 : decode cX6_isTown 19 = .ok (.iconst 0, 1) := by decide +kernel
theorem dX6_isTown_20 : decode cX6_isTown 20 = .ok (.ireturn, 1) := by decide +kernel
theorem dX6_isThing_0 : decode cX6_isThing 0 = .ok (.iload_n 1, 1) := by decide +kernel
theorem dX6_isThing_1 : decode cX6_isThing 1 = .ok (.ifCond .lt 18, 3) := by decide +kernel
theorem dX6_isThing_4 : decode cX6_isThing 4 = .ok (.iload_n 1, 1) := by decide +kernel
theorem dX6_isThing_5 : decode cX6_isThing 5 = .ok (.aload_n 0, 1) := by decide +kernel
theorem dX6_isThing_6 : decode cX6_isThing 6 = .ok (.getfield 21, 3) := by decide +kernel
theorem dX6_isThing_9 : decode cX6_isThing 9 = .ok (.getfield 39, 3) := by decide +kernel
theorem dX6_isThing_12 : decode cX6_isThing 12 = .ok (.if_icmp .ge 7, 3) := by decide +kernel
theorem dX6_isThing_15 : decode cX6_isThing 15 = .ok (.iconst 1, 1) := by decide +kernel
theorem dX6_isThing_16 : decode cX6_isThing 16 = .ok (.goto 4, 3) := by decide +kernel
theorem dX6_isThing_19 : decode cX6_isThing 19 = .ok (.iconst 0, 1) := by decide +kernel
theorem dX6_isThing_20 : decode cX6_isThing 20 = .ok (.ireturn, 1) := by decide +kernel
theorem dX6_townSpot_0 : decode cX6_townSpot 0 = .ok (.aload_n 0, 1) := by decide +kernel
theorem dX6_townSpot_1 : decode cX6_townSpot 1 = .ok (.getfield 12, 3) := by decide +kernel
theorem dX6_townSpot_4 : decode cX6_townSpot 4 = .ok (.getfield 42, 3) := by decide +kernel
theorem dX6_townSpot_7 : decode cX6_townSpot 7 = .ok (.iload_n 1, 1) := by decide +kernel
theorem dX6_townSpot_8 : decode cX6_townSpot 8 = .ok (.iaload, 1) := by decide +kernel
theorem dX6_townSpot_9 : decode cX6_townSpot 9 = .ok (.aload_n 0, 1) := by decide +kernel
theorem dX6_townSpot_10 : decode cX6_townSpot 10 = .ok (.getfield 21, 3) := by decide +kernel
theorem dX6_townSpot_13 : decode cX6_townSpot 13 = .ok (.getfield 46, 3) := by decide +kernel
theorem dX6_townSpot_16 : decode cX6_townSpot 16 = .ok (.iload_n 1, 1) := by decide +kernel
theorem dX6_townSpot_17 : decode cX6_townSpot 17 = .ok (.iaload, 1) := by decide +kernel
theorem dX6_townSpot_18 : decode cX6_townSpot 18 = .ok (.invokestatic 49, 3) := by decide +kernel
theorem dX6_townSpot_21 : decode cX6_townSpot 21 = .ok (.ireturn, 1) := by decide +kernel
theorem dX6_townAt_0 : decode cX6_townAt 0 = .ok (.iconst 0, 1) := by decide +kernel
theorem dX6_townAt_1 : decode cX6_townAt 1 = .ok (.istore 4, 2) := by decide +kernel
theorem dX6_townAt_3 : decode cX6_townAt 3 = .ok (.iload 4, 2) := by decide +kernel
theorem dX6_townAt_5 : decode cX6_townAt 5 = .ok (.aload_n 0, 1) := by decide +kernel
theorem dX6_townAt_6 : decode cX6_townAt 6 = .ok (.getfield 12, 3) := by decide +kernel
theorem dX6_townAt_9 : decode cX6_townAt 9 = .ok (.getfield 36, 3) := by decide +kernel
theorem dX6_townAt_12 : decode cX6_townAt 12 = .ok (.if_icmp .ge 62, 3) := by decide +kernel
theorem dX6_townAt_15 : decode cX6_townAt 15 = .ok (.iload 4, 2) := by decide +kernel
theorem dX6_townAt_17 : decode cX6_townAt 17 = .ok (.iload_n 3, 1) := by decide +kernel
theorem dX6_townAt_18 : decode cX6_townAt 18 = .ok (.if_icmp .eq 50, 3) := by decide +kernel
theorem dX6_townAt_21 : decode cX6_townAt 21 = .ok (.aload_n 0, 1) := by decide +kernel
theorem dX6_townAt_22 : decode cX6_townAt 22 = .ok (.getfield 21, 3) := by decide +kernel
theorem dX6_townAt_25 : decode cX6_townAt 25 = .ok (.getfield 53, 3) := by decide +kernel
theorem dX6_townAt_28 : decode cX6_townAt 28 = .ok (.iload 4, 2) := by decide +kernel
theorem dX6_townAt_30 : decode cX6_townAt 30 = .ok (.baload, 1) := by decide +kernel
theorem dX6_townAt_31 : decode cX6_townAt 31 = .ok (.ifCond .eq 6, 3) := by decide +kernel
theorem dX6_townAt_34 : decode cX6_townAt 34 = .ok (.goto 34, 3) := by decide +kernel
theorem dX6_townAt_37 : decode cX6_townAt 37 = .ok (.aload_n 0, 1) := by decide +kernel
theorem dX6_townAt_38 : decode cX6_townAt 38 = .ok (.getfield 12, 3) := by decide +kernel
theorem dX6_townAt_41 : decode cX6_townAt 41 = .ok (.getfield 42, 3) := by decide +kernel
theorem dX6_townAt_44 : decode cX6_townAt 44 = .ok (.iload 4, 2) := by decide +kernel
theorem dX6_townAt_46 : decode cX6_townAt 46 = .ok (.iaload, 1) := by decide +kernel
theorem dX6_townAt_47 : decode cX6_townAt 47 = .ok (.iload_n 1, 1) := by decide +kernel
theorem dX6_townAt_48 : decode cX6_townAt 48 = .ok (.if_icmp .ne 20, 3) := by decide +kernel
theorem dX6_townAt_51 : decode cX6_townAt 51 = .ok (.aload_n 0, 1) := by decide +kernel
theorem dX6_townAt_52 : decode cX6_townAt 52 = .ok (.getfield 21, 3) := by decide +kernel
theorem dX6_townAt_55 : decode cX6_townAt 55 = .ok (.getfield 46, 3) := by decide +kernel
theorem dX6_townAt_58 : decode cX6_townAt 58 = .ok (.iload 4, 2) := by decide +kernel
theorem dX6_townAt_60 : decode cX6_townAt 60 = .ok (.iaload, 1) := by decide +kernel
theorem dX6_townAt_61 : decode cX6_townAt 61 = .ok (.iload_n 2, 1) := by decide +kernel
theorem dX6_townAt_62 : decode cX6_townAt 62 = .ok (.if_icmp .ne 6, 3) := by decide +kernel
theorem dX6_townAt_65 : decode cX6_townAt 65 = .ok (.iload 4, 2) := by decide +kernel
theorem dX6_townAt_67 : decode cX6_townAt 67 = .ok (.ireturn, 1) := by decide +kernel
theorem dX6_townAt_68 : decode cX6_townAt 68 = .ok (.iinc 4 1, 3) := by decide +kernel
theorem dX6_townAt_71 : decode cX6_townAt 71 = .ok (.goto (-68), 3) := by decide +kernel
theorem dX6_townAt_74 : decode cX6_townAt 74 = .ok (.bipush (-4), 2) := by decide +kernel
theorem dX6_townAt_76 : decode cX6_townAt 76 = .ok (.ireturn, 1) := by decide +kernel
theorem dX7_init_0 : decode cX7_init 0 = .ok (.aload_n 0, 1) := by decide +kernel
theorem dX7_init_1 : decode cX7_init 1 = .ok (.invokespecial 3, 3) := by decide +kernel
theorem dX7_init_4 : decode cX7_init 4 = .ok (.aload_n 0, 1) := by decide +kernel
theorem dX7_init_5 : decode cX7_init 5 = .ok (.sipush 192, 3) := by decide +kernel
theorem dX7_init_8 : decode cX7_init 8 = .ok (.anewarray 9, 3) := by decide +kernel
theorem dX7_init_11 : decode cX7_init 11 = .ok (.putfield 11, 3) := by decide +kernel
theorem dX7_init_14 : decode cX7_init 14 = .ok (.aload_n 0, 1) := by decide +kernel
theorem dX7_init_15 : decode cX7_init 15 = .ok (.new 9, 3) := by decide +kernel
theorem dX7_init_18 : decode cX7_init 18 = .ok (.dup, 1) := by decide +kernel
theorem dX7_init_19 : decode cX7_init 19 = .ok (.invokespecial 17, 3) := by decide +kernel
theorem dX7_init_22 : decode cX7_init 22 = .ok (.putfield 18, 3) := by decide +kernel
theorem dX7_init_25 : decode cX7_init 25 = .ok (.aload_n 0, 1) := by decide +kernel
theorem dX7_init_26 : decode cX7_init 26 = .ok (.sipush 192, 3) := by decide +kernel
theorem dX7_init_29 : decode cX7_init 29 = .ok (.newarray .boolean, 2) := by decide +kernel
theorem dX7_init_31 : decode cX7_init 31 = .ok (.putfield 22, 3) := by decide +kernel
theorem dX7_init_34 : decode cX7_init 34 = .ok (.aload_n 0, 1) := by decide +kernel
theorem dX7_init_35 : decode cX7_init 35 = .ok (.aload_n 1, 1) := by decide +kernel
theorem dX7_init_36 : decode cX7_init 36 = .ok (.putfield 26, 3) := by decide +kernel
theorem dX7_init_39 : decode cX7_init 39 = .ok (.aload_n 0, 1) := by decide +kernel
theorem dX7_init_40 : decode cX7_init 40 = .ok (.getfield 18, 3) := by decide +kernel
theorem dX7_init_43 : decode cX7_init 43 = .ok (.invokevirtual 30, 3) := by decide +kernel
theorem dX7_init_46 : decode cX7_init 46 = .ok (.return_, 1) := by decide +kernel
theorem dX7_start_0 : decode cX7_start 0 = .ok (.iconst 0, 1) := by decide +kernel
theorem dX7_start_1 : decode cX7_start 1 = .ok (.istore_n 1, 1) := by decide +kernel
theorem dX7_start_2 : decode cX7_start 2 = .ok (.iload_n 1, 1) := by decide +kernel
theorem dX7_start_3 : decode cX7_start 3 = .ok (.sipush 192, 3) := by decide +kernel
theorem dX7_start_6 : decode cX7_start 6 = .ok (.if_icmp .ge 35, 3) := by decide +kernel
theorem dX7_start_9 : decode cX7_start 9 = .ok (.aload_n 0, 1) := by decide +kernel
theorem dX7_start_10 : decode cX7_start 10 = .ok (.getfield 22, 3) := by decide +kernel
theorem dX7_start_13 : decode cX7_start 13 = .ok (.iload_n 1, 1) := by decide +kernel
theorem dX7_start_14 : decode cX7_start 14 = .ok (.iconst 0, 1) := by decide +kernel
theorem dX7_start_15 : decode cX7_start 15 = .ok (.bastore, 1) := by decide +kernel
theorem dX7_start_16 : decode cX7_start 16 = .ok (.aload_n 0, 1) := by decide +kernel
theorem dX7_start_17 : decode cX7_start 17 = .ok (.getfield 11, 3) := by decide +kernel
theorem dX7_start_20 : decode cX7_start 20 = .ok (.iload_n 1, 1) := by decide +kernel
theorem dX7_start_21 : decode cX7_start 21 = .ok (.aaload, 1) := by decide +kernel
theorem dX7_start_22 : decode cX7_start 22 = .ok (.ifnull 13, 3) := by decide +kernel
theorem dX7_start_25 : decode cX7_start 25 = .ok (.aload_n 0, 1) := by decide +kernel
theorem dX7_start_26 : decode cX7_start 26 = .ok (.getfield 11, 3) := by decide +kernel
theorem dX7_start_29 : decode cX7_start 29 = .ok (.iload_n 1, 1) := by decide +kernel
theorem dX7_start_30 : decode cX7_start 30 = .ok (.aaload, 1) := by decide +kernel
theorem dX7_start_31 : decode cX7_start 31 = .ok (.iconst 0, 1) := by decide +kernel
theorem dX7_start_32 : decode cX7_start 32 = .ok (.putfield 33, 3) := by decide +kernel
theorem dX7_start_35 : decode cX7_start 35 = .ok (.iinc 1 1, 3) := by decide +kernel
theorem dX7_start_38 : decode cX7_start 38 = .ok (.goto (-36), 3) := by decide +kernel
theorem dX7_start_41 : decode cX7_start 41 = .ok (.iconst 0, 1) := by decide +kernel
theorem dX7_start_42 : decode cX7_start 42 = .ok (.istore_n 1, 1) := by decide +kernel
theorem dX7_start_43 : decode cX7_start 43 = .ok (.iload_n 1, 1) := by decide +kernel
theorem dX7_start_44 : decode cX7_start 44 = .ok (.aload_n 0, 1) := by decide +kernel
theorem dX7_start_45 : decode cX7_start 45 = .ok (.getfield 26, 3) := by decide +kernel
theorem dX7_start_48 : decode cX7_start 48 = .ok (.getfield 37, 3) := by decide +kernel
theorem dX7_start_51 : decode cX7_start 51 = .ok (.getfield 43, 3) := by decide +kernel
theorem dX7_start_54 : decode cX7_start 54 = .ok (.if_icmp .ge 42, 3) := by decide +kernel
theorem dX7_start_57 : decode cX7_start 57 = .ok (.aload_n 0, 1) := by decide +kernel
theorem dX7_start_58 : decode cX7_start 58 = .ok (.getfield 22, 3) := by decide +kernel
theorem dX7_start_61 : decode cX7_start 61 = .ok (.aload_n 0, 1) := by decide +kernel
theorem dX7_start_62 : decode cX7_start 62 = .ok (.getfield 26, 3) := by decide +kernel
theorem dX7_start_65 : decode cX7_start 65 = .ok (.getfield 37, 3) := by decide +kernel
theorem dX7_start_68 : decode cX7_start 68 = .ok (.getfield 49, 3) := by decide +kernel
theorem dX7_start_71 : decode cX7_start 71 = .ok (.iload_n 1, 1) := by decide +kernel
theorem dX7_start_72 : decode cX7_start 72 = .ok (.iaload, 1) := by decide +kernel
theorem dX7_start_73 : decode cX7_start 73 = .ok (.aload_n 0, 1) := by decide +kernel
theorem dX7_start_74 : decode cX7_start 74 = .ok (.getfield 26, 3) := by decide +kernel
theorem dX7_start_77 : decode cX7_start 77 = .ok (.getfield 37, 3) := by decide +kernel
theorem dX7_start_80 : decode cX7_start 80 = .ok (.getfield 53, 3) := by decide +kernel
theorem dX7_start_83 : decode cX7_start 83 = .ok (.iload_n 1, 1) := by decide +kernel
theorem dX7_start_84 : decode cX7_start 84 = .ok (.iaload, 1) := by decide +kernel
theorem dX7_start_85 : decode cX7_start 85 = .ok (.invokestatic 56, 3) := by decide +kernel
theorem dX7_start_88 : decode cX7_start 88 = .ok (.iconst 1, 1) := by decide +kernel
theorem dX7_start_89 : decode cX7_start 89 = .ok (.bastore, 1) := by decide +kernel
theorem dX7_start_90 : decode cX7_start 90 = .ok (.iinc 1 1, 3) := by decide +kernel
theorem dX7_start_93 : decode cX7_start 93 = .ok (.goto (-50), 3) := by decide +kernel
theorem dX7_start_96 : decode cX7_start 96 = .ok (.return_, 1) := by decide +kernel
theorem dX7_isOpen_0 : decode cX7_isOpen 0 = .ok (.iload_n 1, 1) := by decide +kernel
theorem dX7_isOpen_1 : decode cX7_isOpen 1 = .ok (.ifCond .lt 23, 3) := by decide +kernel
theorem dX7_isOpen_4 : decode cX7_isOpen 4 = .ok (.iload_n 1, 1) := by decide +kernel
theorem dX7_isOpen_5 : decode cX7_isOpen 5 = .ok (.sipush 192, 3) := by decide +kernel
theorem dX7_isOpen_8 : decode cX7_isOpen 8 = .ok (.if_icmp .ge 16, 3) := by decide +kernel
theorem dX7_isOpen_11 : decode cX7_isOpen 11 = .ok (.aload_n 0, 1) := by decide +kernel
theorem dX7_isOpen_12 : decode cX7_isOpen 12 = .ok (.getfield 22, 3) := by decide +kernel
theorem dX7_isOpen_15 : decode cX7_isOpen 15 = .ok (.iload_n 1, 1) := by decide +kernel
theorem dX7_isOpen_16 : decode cX7_isOpen 16 = .ok (.baload, 1) := by decide +kernel
theorem dX7_isOpen_17 : decode cX7_isOpen 17 = .ok (.ifCond .ne 7, 3) := by decide +kernel
theorem dX7_isOpen_20 : decode cX7_isOpen 20 = .ok (.iconst 1, 1) := by decide +kernel
theorem dX7_isOpen_21 : decode cX7_isOpen 21 = .ok (.goto 4, 3) := by decide +kernel
theorem dX7_isOpen_24 : decode cX7_isOpen 24 = .ok (.iconst 0, 1) := by decide +kernel
theorem dX7_isOpen_25 : decode cX7_isOpen 25 = .ok (.ireturn, 1) := by decide +kernel
theorem dX7_rowFrom_0 : decode cX7_rowFrom 0 = .ok (.aload_n 0, 1) := by decide +kernel
theorem dX7_rowFrom_1 : decode cX7_rowFrom 1 = .ok (.iload_n 1, 1) := by decide +kernel
theorem dX7_rowFrom_2 : decode cX7_rowFrom 2 = .ok (.invokevirtual 60, 3) := by decide +kernel
theorem dX7_rowFrom_5 : decode cX7_rowFrom 5 = .ok (.ifCond .ne 8, 3) := by decide +kernel
theorem dX7_rowFrom_8 : decode cX7_rowFrom 8 = .ok (.aload_n 0, 1) := by decide +kernel
theorem dX7_rowFrom_9 : decode cX7_rowFrom 9 = .ok (.getfield 18, 3) := by decide +kernel
theorem dX7_rowFrom_12 : decode cX7_rowFrom 12 = .ok (.areturn, 1) := by decide +kernel
theorem dX7_rowFrom_13 : decode cX7_rowFrom 13 = .ok (.aload_n 0, 1) := by decide +kernel
theorem dX7_rowFrom_14 : decode cX7_rowFrom 14 = .ok (.getfield 11, 3) := by decide +kernel
theorem dX7_rowFrom_17 : decode cX7_rowFrom 17 = .ok (.iload_n 1, 1) := by decide +kernel
theorem dX7_rowFrom_18 : decode cX7_rowFrom 18 = .ok (.aaload, 1) := by decide +kernel
theorem dX7_rowFrom_19 : decode cX7_rowFrom 19 = .ok (.astore_n 2, 1) := by decide +kernel
theorem dX7_rowFrom_20 : decode cX7_rowFrom 20 = .ok (.aload_n 2, 1) := by decide +kernel
theorem dX7_rowFrom_21 : decode cX7_rowFrom 21 = .ok (.ifnonnull 18, 3) := by decide +kernel
theorem dX7_rowFrom_24 : decode cX7_rowFrom 24 = .ok (.new 9, 3) := by decide +kernel
theorem dX7_rowFrom_27 : decode cX7_rowFrom 27 = .ok (.dup, 1) := by decide +kernel
theorem dX7_rowFrom_28 : decode cX7_rowFrom 28 = .ok (.invokespecial 17, 3) := by decide +kernel
theorem dX7_rowFrom_31 : decode cX7_rowFrom 31 = .ok (.astore_n 2, 1) := by decide +kernel
theorem dX7_rowFrom_32 : decode cX7_rowFrom 32 = .ok (.aload_n 0, 1) := by decide +kernel
theorem dX7_rowFrom_33 : decode cX7_rowFrom 33 = .ok (.getfield 11, 3) := by decide +kernel
theorem dX7_rowFrom_36 : decode cX7_rowFrom 36 = .ok (.iload_n 1, 1) := by decide +kernel
theorem dX7_rowFrom_37 : decode cX7_rowFrom 37 = .ok (.aload_n 2, 1) := by decide +kernel
theorem dX7_rowFrom_38 : decode cX7_rowFrom 38 = .ok (.aastore, 1) := by decide +kernel
theorem dX7_rowFrom_39 : decode cX7_rowFrom 39 = .ok (.aload_n 2, 1) := by decide +kernel
theorem dX7_rowFrom_40 : decode cX7_rowFrom 40 = .ok (.getfield 33, 3) := by decide +kernel
theorem dX7_rowFrom_43 : decode cX7_rowFrom 43 = .ok (.ifCond .ne 9, 3) := by decide +kernel
theorem dX7_rowFrom_46 : decode cX7_rowFrom 46 = .ok (.aload_n 0, 1) := by decide +kernel
theorem dX7_rowFrom_47 : decode cX7_rowFrom 47 = .ok (.aload_n 2, 1) := by decide +kernel
theorem dX7_rowFrom_48 : decode cX7_rowFrom 48 = .ok (.iload_n 1, 1) := by decide +kernel
theorem dX7_rowFrom_49 : decode cX7_rowFrom 49 = .ok (.invokevirtual 64, 3) := by decide +kernel
theorem dX7_rowFrom_52 : decode cX7_rowFrom 52 = .ok (.aload_n 2, 1) := by decide +kernel
theorem dX7_rowFrom_53 : decode cX7_rowFrom 53 = .ok (.areturn, 1) := by decide +kernel
theorem dX7_fill_0 : decode cX7_fill 0 = .ok (.aload_n 0, 1) := by decide +kernel
theorem dX7_fill_1 : decode cX7_fill 1 = .ok (.getfield 26, 3) := by decide +kernel
theorem dX7_fill_4 : decode cX7_fill 4 = .ok (.getfield 37, 3) := by decide +kernel
theorem dX7_fill_7 : decode cX7_fill 7 = .ok (.getfield 68, 3) := by decide +kernel
theorem dX7_fill_10 : decode cX7_fill 10 = .ok (.iconst 1, 1) := by decide +kernel
theorem dX7_fill_11 : decode cX7_fill 11 = .ok (.isub, 1) := by decide +kernel
theorem dX7_fill_12 : decode cX7_fill 12 = .ok (.istore_n 3, 1) := by decide +kernel
theorem dX7_fill_13 : decode cX7_fill 13 = .ok (.aload_n 0, 1) := by decide +kernel
theorem dX7_fill_14 : decode cX7_fill 14 = .ok (.getfield 26, 3) := by decide +kernel
theorem dX7_fill_17 : decode cX7_fill 17 = .ok (.getfield 37, 3) := by decide +kernel
theorem dX7_fill_20 : decode cX7_fill 20 = .ok (.getfield 71, 3) := by decide +kernel
theorem dX7_fill_23 : decode cX7_fill 23 = .ok (.iconst 1, 1) := by decide +kernel
theorem dX7_fill_24 : decode cX7_fill 24 = .ok (.isub, 1) := by decide +kernel
theorem dX7_fill_25 : decode cX7_fill 25 = .ok (.istore 4, 2) := by decide +kernel
theorem dX7_fill_27 : decode cX7_fill 27 = .ok (.aload_n 1, 1) := by decide +kernel
theorem dX7_fill_28 : decode cX7_fill 28 = .ok (.invokevirtual 30, 3) := by decide +kernel
theorem dX7_fill_31 : decode cX7_fill 31 = .ok (.aload_n 1, 1) := by decide +kernel
theorem dX7_fill_32 : decode cX7_fill 32 = .ok (.getfield 74, 3) := by decide +kernel
theorem dX7_fill_35 : decode cX7_fill 35 = .ok (.iload_n 2, 1) := by decide +kernel
theorem dX7_fill_36 : decode cX7_fill 36 = .ok (.iconst 0, 1) := by decide +kernel
theorem dX7_fill_37 : decode cX7_fill 37 = .ok (.iastore, 1) := by decide +kernel
theorem dX7_fill_38 : decode cX7_fill 38 = .ok (.iconst 1, 1) := by decide +kernel
theorem dX7_fill_39 : decode cX7_fill 39 = .ok (.istore 5, 2) := by decide +kernel
theorem dX7_fill_41 : decode cX7_fill 41 = .ok (.iconst 0, 1) := by decide +kernel
theorem dX7_fill_42 : decode cX7_fill 42 = .ok (.istore 6, 2) := by decide +kernel
theorem dX7_fill_44 : decode cX7_fill 44 = .ok (.iload 5, 2) := by decide +kernel
theorem dX7_fill_46 : decode cX7_fill 46 = .ok (.ifCond .eq 108, 3) := by decide +kernel
theorem dX7_fill_49 : decode cX7_fill 49 = .ok (.iload 6, 2) := by decide +kernel
theorem dX7_fill_51 : decode cX7_fill 51 = .ok (.sipush 192, 3) := by decide +kernel
theorem dX7_fill_54 : decode cX7_fill 54 = .ok (.if_icmp .gt 100, 3) := by decide +kernel
theorem dX7_fill_57 : decode cX7_fill 57 = .ok (.iload 6, 2) := by decide +kernel
theorem dX7_fill_59 : decode cX7_fill 59 = .ok (.iconst 2, 1) := by decide +kernel
theorem dX7_fill_60 : decode cX7_fill 60 = .ok (.irem, 1) := by decide +kernel
theorem dX7_fill_61 : decode cX7_fill 61 = .ok (.ifCond .ne 7, 3) := by decide +kernel
theorem dX7_fill_64 : decode cX7_fill 64 = .ok (.iconst 1, 1) := by decide +kernel
theorem dX7_fill_65 : decode cX7_fill 65 = .ok (.goto 4, 3) := by decide +kernel
theorem dX7_fill_68 : decode cX7_fill 68 = .ok (.iconst 0, 1) := by decide +kernel
theorem dX7_fill_69 : decode cX7_fill 69 = .ok (.istore 7, 2) := by decide +kernel
theorem dX7_fill_71 : decode cX7_fill 71 = .ok (.iconst 0, 1) := by decide +kernel
theorem dX7_fill_72 : decode cX7_fill 72 = .ok (.istore 5, 2) := by decide +kernel
theorem dX7_fill_74 : decode cX7_fill 74 = .ok (.iconst 0, 1) := by decide +kernel
theorem dX7_fill_75 : decode cX7_fill 75 = .ok (.istore 8, 2) := by decide +kernel
theorem dX7_fill_77 : decode cX7_fill 77 = .ok (.iload 8, 2) := by decide +kernel
theorem dX7_fill_79 : decode cX7_fill 79 = .ok (.iload_n 3, 1) := by decide +kernel
theorem dX7_fill_80 : decode cX7_fill 80 = .ok (.if_icmp .gt 68, 3) := by decide +kernel
theorem dX7_fill_83 : decode cX7_fill 83 = .ok (.iconst 0, 1) := by decide +kernel
theorem dX7_fill_84 : decode cX7_fill 84 = .ok (.istore 9, 2) := by decide +kernel
theorem dX7_fill_86 : decode cX7_fill 86 = .ok (.iload 9, 2) := by decide +kernel
theorem dX7_fill_88 : decode cX7_fill 88 = .ok (.iload 4, 2) := by decide +kernel
theorem dX7_fill_90 : decode cX7_fill 90 = .ok (.if_icmp .gt 52, 3) := by decide +kernel
theorem dX7_fill_93 : decode cX7_fill 93 = .ok (.aload_n 0, 1) := by decide +kernel
theorem dX7_fill_94 : decode cX7_fill 94 = .ok (.aload_n 1, 1) := by decide +kernel
theorem dX7_fill_95 : decode cX7_fill 95 = .ok (.getfield 74, 3) := by decide +kernel
theorem dX7_fill_98 : decode cX7_fill 98 = .ok (.iload 7, 2) := by decide +kernel
theorem dX7_fill_100 : decode cX7_fill 100 = .ok (.ifCond .eq 8, 3) := by decide +kernel
theorem dX7_fill_103 : decode cX7_fill 103 = .ok (.iload 8, 2) := by decide +kernel
theorem dX7_fill_105 : decode cX7_fill 105 = .ok (.goto 7, 3) := by decide +kernel
theorem dX7_fill_108 : decode cX7_fill 108 = .ok (.iload_n 3, 1) := by decide +kernel
theorem dX7_fill_109 : decode cX7_fill 109 = .ok (.iload 8, 2) := by decide +kernel
theorem dX7_fill_111 : decode cX7_fill 111 = .ok (.isub, 1) := by decide +kernel
theorem dX7_fill_112 : decode cX7_fill 112 = .ok (.iload 7, 2) := by decide +kernel
theorem dX7_fill_114 : decode cX7_fill 114 = .ok (.ifCond .eq 8, 3) := by decide +kernel
theorem dX7_fill_117 : decode cX7_fill 117 = .ok (.iload 9, 2) := by decide +kernel
theorem dX7_fill_119 : decode cX7_fill 119 = .ok (.goto 8, 3) := by decide +kernel
theorem dX7_fill_122 : decode cX7_fill 122 = .ok (.iload 4, 2) := by decide +kernel
theorem dX7_fill_124 : decode cX7_fill 124 = .ok (.iload 9, 2) := by decide +kernel
theorem dX7_fill_126 : decode cX7_fill 126 = .ok (.isub, 1) := by decide +kernel
theorem dX7_fill_127 : decode cX7_fill 127 = .ok (.invokevirtual 77, 3) := by decide +kernel
theorem dX7_fill_130 : decode cX7_fill 130 = .ok (.ifCond .eq 6, 3) := by decide +kernel
theorem dX7_fill_133 : decode cX7_fill 133 = .ok (.iconst 1, 1) := by decide +kernel
theorem dX7_fill_134 : decode cX7_fill 134 = .ok (.istore 5, 2) := by decide +kernel
theorem dX7_fill_136 : decode cX7_fill 136 = .ok (.iinc 9 1, 3) := by decide +kernel
theorem dX7_fill_139 : decode cX7_fill 139 = .ok (.goto (-53), 3) := by decide +kernel
theorem dX7_fill_142 : decode cX7_fill 142 = .ok (.iinc 8 1, 3) := by decide +kernel
theorem dX7_fill_145 : decode cX7_fill 145 = .ok (.goto (-68), 3) := by decide +kernel
theorem dX7_fill_148 : decode cX7_fill 148 = .ok (.iinc 6 1, 3) := by decide +kernel
theorem dX7_fill_151 : decode cX7_fill 151 = .ok (.goto (-107), 3) := by decide +kernel
theorem dX7_fill_154 : decode cX7_fill 154 = .ok (.aload_n 1, 1) := by decide +kernel
theorem dX7_fill_155 : decode cX7_fill 155 = .ok (.iconst 1, 1) := by decide +kernel
theorem dX7_fill_156 : decode cX7_fill 156 = .ok (.putfield 33, 3) := by decide +kernel
theorem dX7_fill_159 : decode cX7_fill 159 = .ok (.return_, 1) := by decide +kernel
theorem dX7_improve_0 : decode cX7_improve 0 = .ok (.aload_n 0, 1) := by decide +kernel
theorem dX7_improve_1 : decode cX7_improve 1 = .ok (.getfield 26, 3) := by decide +kernel
theorem dX7_improve_4 : decode cX7_improve 4 = .ok (.getfield 37, 3) := by decide +kernel
theorem dX7_improve_7 : decode cX7_improve 7 = .ok (.astore 4, 2) := by decide +kernel
theorem dX7_improve_9 : decode cX7_improve 9 = .ok (.bipush 24, 2) := by decide +kernel
theorem dX7_improve_11 : decode cX7_improve 11 = .ok (.iload_n 2, 1) := by decide +kernel
theorem dX7_improve_12 : decode cX7_improve 12 = .ok (.imul, 1) := by decide +kernel
theorem dX7_improve_13 : decode cX7_improve 13 = .ok (.iload_n 3, 1) := by decide +kernel
theorem dX7_improve_14 : decode cX7_improve 14 = .ok (.iadd, 1) := by decide +kernel
theorem dX7_improve_15 : decode cX7_improve 15 = .ok (.istore 5, 2) := by decide +kernel
theorem dX7_improve_17 : decode cX7_improve 17 = .ok (.aload_n 0, 1) := by decide +kernel
theorem dX7_improve_18 : decode cX7_improve 18 = .ok (.getfield 22, 3) := by decide +kernel
theorem dX7_improve_21 : decode cX7_improve 21 = .ok (.iload 5, 2) := by decide +kernel
theorem dX7_improve_23 : decode cX7_improve 23 = .ok (.baload, 1) := by decide +kernel
theorem dX7_improve_24 : decode cX7_improve 24 = .ok (.ifCond .eq 5, 3) := by decide +kernel
theorem dX7_improve_27 : decode cX7_improve 27 = .ok (.iconst 0, 1) := by decide +kernel
theorem dX7_improve_28 : decode cX7_improve 28 = .ok (.ireturn, 1) := by decide +kernel
theorem dX7_improve_29 : decode cX7_improve 29 = .ok (.iload_n 3, 1) := by decide +kernel
theorem dX7_improve_30 : decode cX7_improve 30 = .ok (.iconst 1, 1) := by decide +kernel
theorem dX7_improve_31 : decode cX7_improve 31 = .ok (.iadd, 1) := by decide +kernel
theorem dX7_improve_32 : decode cX7_improve 32 = .ok (.aload 4, 2) := by decide +kernel
theorem dX7_improve_34 : decode cX7_improve 34 = .ok (.getfield 71, 3) := by decide +kernel
theorem dX7_improve_37 : decode cX7_improve 37 = .ok (.if_icmp .ge 10, 3) := by decide +kernel
theorem dX7_improve_40 : decode cX7_improve 40 = .ok (.iload 5, 2) := by decide +kernel
theorem dX7_improve_42 : decode cX7_improve 42 = .ok (.iconst 1, 1) := by decide +kernel
theorem dX7_improve_43 : decode cX7_improve 43 = .ok (.iadd, 1) := by decide +kernel
theorem dX7_improve_44 : decode cX7_improve 44 = .ok (.goto 7, 3) := by decide +kernel
theorem dX7_improve_47 : decode cX7_improve 47 = .ok (.iload 5, 2) := by decide +kernel
theorem dX7_improve_49 : decode cX7_improve 49 = .ok (.iload_n 3, 1) := by decide +kernel
theorem dX7_improve_50 : decode cX7_improve 50 = .ok (.isub, 1) := by decide +kernel
theorem dX7_improve_51 : decode cX7_improve 51 = .ok (.istore 6, 2) := by decide +kernel
theorem dX7_improve_53 : decode cX7_improve 53 = .ok (.iload_n 3, 1) := by decide +kernel
theorem dX7_improve_54 : decode cX7_improve 54 = .ok (.ifCond .le 10, 3) := by decide +kernel
theorem dX7_improve_57 : decode cX7_improve 57 = .ok (.iload 5, 2) := by decide +kernel
theorem dX7_improve_59 : decode cX7_improve 59 = .ok (.iconst 1, 1) := by decide +kernel
theorem dX7_improve_60 : decode cX7_improve 60 = .ok (.isub, 1) := by decide +kernel
theorem dX7_improve_61 : decode cX7_improve 61 = .ok (.goto 13, 3) := by decide +kernel
theorem dX7_improve_64 : decode cX7_improve 64 = .ok (.iload 5, 2) := by decide +kernel
theorem dX7_improve_66 : decode cX7_improve 66 = .ok (.aload 4, 2) := by decide +kernel
theorem dX7_improve_68 : decode cX7_improve 68 = .ok (.getfield 71, 3) := by decide +kernel
theorem dX7_improve_71 : decode cX7_improve 71 = .ok (.iadd, 1) := by decide +kernel
theorem dX7_improve_72 : decode cX7_improve 72 = .ok (.iconst 1, 1) := by decide +kernel
theorem dX7_improve_73 : decode cX7_improve 73 = .ok (.isub, 1) := by decide +kernel
theorem dX7_improve_74 : decode cX7_improve 74 = .ok (.istore 7, 2) := by decide +kernel
theorem dX7_improve_76 : decode cX7_improve 76 = .ok (.aload_n 1, 1) := by decide +kernel
theorem dX7_improve_77 : decode cX7_improve 77 = .ok (.iload 6, 2) := by decide +kernel
theorem dX7_improve_79 : decode cX7_improve 79 = .ok (.iaload, 1) := by decide +kernel
theorem dX7_improve_80 : decode cX7_improve 80 = .ok (.aload_n 1, 1) := by decide +kernel
theorem dX7_improve_81 : decode cX7_improve 81 = .ok (.iload 7, 2) := by decide +kernel
theorem dX7_improve_83 : decode cX7_improve 83 = .ok (.iaload, 1) := by decide +kernel
theorem dX7_improve_84 : decode cX7_improve 84 = .ok (.if_icmp .ge 12, 3) := by decide +kernel
theorem dX7_improve_87 : decode cX7_improve 87 = .ok (.aload_n 1, 1) := by decide +kernel
theorem dX7_improve_88 : decode cX7_improve 88 = .ok (.iload 6, 2) := by decide +kernel
theorem dX7_improve_90 : decode cX7_improve 90 = .ok (.iaload, 1) := by decide +kernel
theorem dX7_improve_91 : decode cX7_improve 91 = .ok (.iconst 1, 1) := by decide +kernel
theorem dX7_improve_92 : decode cX7_improve 92 = .ok (.iadd, 1) := by decide +kernel
theorem dX7_improve_93 : decode cX7_improve 93 = .ok (.goto 9, 3) := by decide +kernel
theorem dX7_improve_96 : decode cX7_improve 96 = .ok (.aload_n 1, 1) := by decide +kernel
theorem dX7_improve_97 : decode cX7_improve 97 = .ok (.iload 7, 2) := by decide +kernel
theorem dX7_improve_99 : decode cX7_improve 99 = .ok (.iaload, 1) := by decide +kernel
theorem dX7_improve_100 : decode cX7_improve 100 = .ok (.iconst 1, 1) := by decide +kernel
theorem dX7_improve_101 : decode cX7_improve 101 = .ok (.iadd, 1) := by decide +kernel
theorem dX7_improve_102 : decode cX7_improve 102 = .ok (.istore 8, 2) := by decide +kernel
theorem dX7_improve_104 : decode cX7_improve 104 = .ok (.iload_n 2, 1) := by decide +kernel
theorem dX7_improve_105 : decode cX7_improve 105 = .ok (.ifCond .le 44, 3) := by decide +kernel
theorem dX7_improve_108 : decode cX7_improve 108 = .ok (.aload_n 1, 1) := by decide +kernel
theorem dX7_improve_109 : decode cX7_improve 109 = .ok (.iload 5, 2) := by decide +kernel
theorem dX7_improve_111 : decode cX7_improve 111 = .ok (.bipush 24, 2) := by decide +kernel
theorem dX7_improve_113 : decode cX7_improve 113 = .ok (.isub, 1) := by decide +kernel
theorem dX7_improve_114 : decode cX7_improve 114 = .ok (.iaload, 1) := by decide +kernel
theorem dX7_improve_115 : decode cX7_improve 115 = .ok (.aload 4, 2) := by decide +kernel
theorem dX7_improve_117 : decode cX7_improve 117 = .ok (.getfield 81, 3) := by decide +kernel
theorem dX7_improve_120 : decode cX7_improve 120 = .ok (.iload_n 2, 1) := by decide +kernel
theorem dX7_improve_121 : decode cX7_improve 121 = .ok (.iconst 1, 1) := by decide +kernel
theorem dX7_improve_122 : decode cX7_improve 122 = .ok (.isub, 1) := by decide +kernel
theorem dX7_improve_123 : decode cX7_improve 123 = .ok (.iaload, 1) := by decide +kernel
theorem dX7_improve_124 : decode cX7_improve 124 = .ok (.iadd, 1) := by decide +kernel
theorem dX7_improve_125 : decode cX7_improve 125 = .ok (.iload 8, 2) := by decide +kernel
theorem dX7_improve_127 : decode cX7_improve 127 = .ok (.if_icmp .ge 22, 3) := by decide +kernel
theorem dX7_improve_130 : decode cX7_improve 130 = .ok (.aload_n 1, 1) := by decide +kernel
theorem dX7_improve_131 : decode cX7_improve 131 = .ok (.iload 5, 2) := by decide +kernel
theorem dX7_improve_133 : decode cX7_improve 133 = .ok (.bipush 24, 2) := by decide +kernel
theorem dX7_improve_135 : decode cX7_improve 135 = .ok (.isub, 1) := by decide +kernel
theorem dX7_improve_136 : decode cX7_improve 136 = .ok (.iaload, 1) := by decide +kernel
theorem dX7_improve_137 : decode cX7_improve 137 = .ok (.aload 4, 2) := by decide +kernel
theorem dX7_improve_139 : decode cX7_improve 139 = .ok (.getfield 81, 3) := by decide +kernel
theorem dX7_improve_142 : decode cX7_improve 142 = .ok (.iload_n 2, 1) := by decide +kernel
theorem dX7_improve_143 : decode cX7_improve 143 = .ok (.iconst 1, 1) := by decide +kernel
theorem dX7_improve_144 : decode cX7_improve 144 = .ok (.isub, 1) := by decide +kernel
theorem dX7_improve_145 : decode cX7_improve 145 = .ok (.iaload, 1) := by decide +kernel
theorem dX7_improve_146 : decode cX7_improve 146 = .ok (.iadd, 1) := by decide +kernel
theorem dX7_improve_147 : decode cX7_improve 147 = .ok (.istore 8, 2) := by decide +kernel
theorem dX7_improve_149 : decode cX7_improve 149 = .ok (.iload_n 2, 1) := by decide +kernel
theorem dX7_improve_150 : decode cX7_improve 150 = .ok (.iconst 1, 1) := by decide +kernel
theorem dX7_improve_151 : decode cX7_improve 151 = .ok (.iadd, 1) := by decide +kernel
theorem dX7_improve_152 : decode cX7_improve 152 = .ok (.aload 4, 2) := by decide +kernel
theorem dX7_improve_154 : decode cX7_improve 154 = .ok (.getfield 68, 3) := by decide +kernel
theorem dX7_improve_157 : decode cX7_improve 157 = .ok (.if_icmp .ge 40, 3) := by decide +kernel
theorem dX7_improve_160 : decode cX7_improve 160 = .ok (.aload_n 1, 1) := by decide +kernel
theorem dX7_improve_161 : decode cX7_improve 161 = .ok (.iload 5, 2) := by decide +kernel
theorem dX7_improve_163 : decode cX7_improve 163 = .ok (.bipush 24, 2) := by decide +kernel
theorem dX7_improve_165 : decode cX7_improve 165 = .ok (.iadd, 1) := by decide +kernel
theorem dX7_improve_166 : decode cX7_improve 166 = .ok (.iaload, 1) := by decide +kernel
theorem dX7_improve_167 : decode cX7_improve 167 = .ok (.aload 4, 2) := by decide +kernel
theorem dX7_improve_169 : decode cX7_improve 169 = .ok (.getfield 81, 3) := by decide +kernel
theorem dX7_improve_172 : decode cX7_improve 172 = .ok (.iload_n 2, 1) := by decide +kernel
theorem dX7_improve_173 : decode cX7_improve 173 = .ok (.iaload, 1) := by decide +kernel
theorem dX7_improve_174 : decode cX7_improve 174 = .ok (.iadd, 1) := by decide +kernel
theorem dX7_improve_175 : decode cX7_improve 175 = .ok (.iload 8, 2) := by decide +kernel
theorem dX7_improve_177 : decode cX7_improve 177 = .ok (.if_icmp .ge 20, 3) := by decide +kernel
theorem dX7_improve_180 : decode cX7_improve 180 = .ok (.aload_n 1, 1) := by decide +kernel
theorem dX7_improve_181 : decode cX7_improve 181 = .ok (.iload 5, 2) := by decide +kernel
theorem dX7_improve_183 : decode cX7_improve 183 = .ok (.bipush 24, 2) := by decide +kernel
theorem dX7_improve_185 : decode cX7_improve 185 = .ok (.iadd, 1) := by decide +kernel
theorem dX7_improve_186 : decode cX7_improve 186 = .ok (.iaload, 1) := by decide +kernel
theorem dX7_improve_187 : decode cX7_improve 187 = .ok (.aload 4, 2) := by decide +kernel
theorem dX7_improve_189 : decode cX7_improve 189 = .ok (.getfield 81, 3) := by decide +kernel
theorem dX7_improve_192 : decode cX7_improve 192 = .ok (.iload_n 2, 1) := by decide +kernel
theorem dX7_improve_193 : decode cX7_improve 193 = .ok (.iaload, 1) := by decide +kernel
theorem dX7_improve_194 : decode cX7_improve 194 = .ok (.iadd, 1) := by decide +kernel
theorem dX7_improve_195 : decode cX7_improve 195 = .ok (.istore 8, 2) := by decide +kernel
theorem dX7_improve_197 : decode cX7_improve 197 = .ok (.iload 8, 2) := by decide +kernel
theorem dX7_improve_199 : decode cX7_improve 199 = .ok (.aload_n 1, 1) := by decide +kernel
theorem dX7_improve_200 : decode cX7_improve 200 = .ok (.iload 5, 2) := by decide +kernel
theorem dX7_improve_202 : decode cX7_improve 202 = .ok (.iaload, 1) := by decide +kernel
theorem dX7_improve_203 : decode cX7_improve 203 = .ok (.if_icmp .lt 5, 3) := by decide +kernel
theorem dX7_improve_206 : decode cX7_improve 206 = .ok (.iconst 0, 1) := by decide +kernel
theorem dX7_improve_207 : decode cX7_improve 207 = .ok (.ireturn, 1) := by decide +kernel
theorem dX7_improve_208 : decode cX7_improve 208 = .ok (.aload_n 1, 1) := by decide +kernel
theorem dX7_improve_209 : decode cX7_improve 209 = .ok (.iload 5, 2) := by decide +kernel
theorem dX7_improve_211 : decode cX7_improve 211 = .ok (.iload 8, 2) := by decide +kernel
theorem dX7_improve_213 : decode cX7_improve 213 = .ok (.iastore, 1) := by decide +kernel
theorem dX7_improve_214 : decode cX7_improve 214 = .ok (.iconst 1, 1) := by decide +kernel
theorem dX7_improve_215 : decode cX7_improve 215 = .ok (.ireturn, 1) := by decide +kernel
theorem dX8_init_0 : decode cX8_init 0 = .ok (.aload_n 0, 1) := by decide +kernel
theorem dX8_init_1 : decode cX8_init 1 = .ok (.invokespecial 3, 3) := by decide +kernel
theorem dX8_init_4 : decode cX8_init 4 = .ok (.aload_n 0, 1) := by decide +kernel
theorem dX8_init_5 : decode cX8_init 5 = .ok (.iconst 0, 1) := by decide +kernel
theorem dX8_init_6 : decode cX8_init 6 = .ok (.putfield 9, 3) := by decide +kernel
theorem dX8_init_9 : decode cX8_init 9 = .ok (.aload_n 0, 1) := by decide +kernel
theorem dX8_init_10 : decode cX8_init 10 = .ok (.iconst 0, 1) := by decide +kernel
theorem dX8_init_11 : decode cX8_init 11 = .ok (.putfield 15, 3) := by decide +kernel
theorem dX8_init_14 : decode cX8_init 14 = .ok (.aload_n 0, 1) := by decide +kernel
theorem dX8_init_15 : decode cX8_init 15 = .ok (.bipush 6, 2) := by decide +kernel
theorem dX8_init_17 : decode cX8_init 17 = .ok (.newarray .int, 2) := by decide +kernel
theorem dX8_init_19 : decode cX8_init 19 = .ok (.putfield 18, 3) := by decide +kernel
theorem dX8_init_22 : decode cX8_init 22 = .ok (.aload_n 0, 1) := by decide +kernel
theorem dX8_init_23 : decode cX8_init 23 = .ok (.bipush 6, 2) := by decide +kernel
theorem dX8_init_25 : decode cX8_init 25 = .ok (.newarray .boolean, 2) := by decide +kernel
theorem dX8_init_27 : decode cX8_init 27 = .ok (.putfield 22, 3) := by decide +kernel
theorem dX8_init_30 : decode cX8_init 30 = .ok (.aload_n 0, 1) := by decide +kernel
theorem dX8_init_31 : decode cX8_init 31 = .ok (.bipush 7, 2) := by decide +kernel
theorem dX8_init_33 : decode cX8_init 33 = .ok (.newarray .int, 2) := by decide +kernel
theorem dX8_init_35 : decode cX8_init 35 = .ok (.putfield 26, 3) := by decide +kernel
theorem dX8_init_38 : decode cX8_init 38 = .ok (.aload_n 0, 1) := by decide +kernel
theorem dX8_init_39 : decode cX8_init 39 = .ok (.bipush 7, 2) := by decide +kernel
theorem dX8_init_41 : decode cX8_init 41 = .ok (.newarray .int, 2) := by decide +kernel
theorem dX8_init_43 : decode cX8_init 43 = .ok (.putfield 29, 3) := by decide +kernel
theorem dX8_init_46 : decode cX8_init 46 = .ok (.aload_n 0, 1) := by decide +kernel
theorem dX8_init_47 : decode cX8_init 47 = .ok (.bipush 7, 2) := by decide +kernel
theorem dX8_init_49 : decode cX8_init 49 = .ok (.newarray .int, 2) := by decide +kernel
theorem dX8_init_51 : decode cX8_init 51 = .ok (.putfield 32, 3) := by decide +kernel
theorem dX8_init_54 : decode cX8_init 54 = .ok (.aload_n 0, 1) := by decide +kernel
theorem dX8_init_55 : decode cX8_init 55 = .ok (.bipush 7, 2) := by decide +kernel
theorem dX8_init_57 : decode cX8_init 57 = .ok (.newarray .int, 2) := by decide +kernel
theorem dX8_init_59 : decode cX8_init 59 = .ok (.putfield 35, 3) := by decide +kernel
theorem dX8_init_62 : decode cX8_init 62 = .ok (.return_, 1) := by decide +kernel
theorem dX8_start_0 : decode cX8_start 0 = .ok (.aload_n 0, 1) := by decide +kernel
theorem dX8_start_1 : decode cX8_start 1 = .ok (.iconst 0, 1) := by decide +kernel
theorem dX8_start_2 : decode cX8_start 2 = .ok (.putfield 9, 3) := by decide +kernel
theorem dX8_start_5 : decode cX8_start 5 = .ok (.aload_n 0, 1) := by decide +kernel
theorem dX8_start_6 : decode cX8_start 6 = .ok (.iconst 0, 1) := by decide +kernel
theorem dX8_start_7 : decode cX8_start 7 = .ok (.putfield 15, 3) := by decide +kernel
theorem dX8_start_10 : decode cX8_start 10 = .ok (.iconst 0, 1) := by decide +kernel
theorem dX8_start_11 : decode cX8_start 11 = .ok (.istore_n 2, 1) := by decide +kernel
theorem dX8_start_12 : decode cX8_start 12 = .ok (.iload_n 2, 1) := by decide +kernel
theorem dX8_start_13 : decode cX8_start 13 = .ok (.bipush 6, 2) := by decide +kernel
theorem dX8_start_15 : decode cX8_start 15 = .ok (.if_icmp .ge 28, 3) := by decide +kernel
theorem dX8_start_18 : decode cX8_start 18 = .ok (.aload_n 0, 1) := by decide +kernel
theorem dX8_start_19 : decode cX8_start 19 = .ok (.getfield 18, 3) := by decide +kernel
theorem dX8_start_22 : decode cX8_start 22 = .ok (.iload_n 2, 1) := by decide +kernel
theorem dX8_start_23 : decode cX8_start 23 = .ok (.aload_n 1, 1) := by decide +kernel
theorem dX8_start_24 : decode cX8_start 24 = .ok (.getfield 38, 3) := by decide +kernel
theorem dX8_start_27 : decode cX8_start 27 = .ok (.iload_n 2, 1) := by decide +kernel
theorem dX8_start_28 : decode cX8_start 28 = .ok (.iaload, 1) := by decide +kernel
theorem dX8_start_29 : decode cX8_start 29 = .ok (.iastore, 1) := by decide +kernel
theorem dX8_start_30 : decode cX8_start 30 = .ok (.aload_n 0, 1) := by decide +kernel
theorem dX8_start_31 : decode cX8_start 31 = .ok (.getfield 22, 3) := by decide +kernel
theorem dX8_start_34 : decode cX8_start 34 = .ok (.iload_n 2, 1) := by decide +kernel
theorem dX8_start_35 : decode cX8_start 35 = .ok (.iconst 0, 1) := by decide +kernel
theorem dX8_start_36 : decode cX8_start 36 = .ok (.bastore, 1) := by decide +kernel
theorem dX8_start_37 : decode cX8_start 37 = .ok (.iinc 2 1, 3) := by decide +kernel
theorem dX8_start_40 : decode cX8_start 40 = .ok (.goto (-28), 3) := by decide +kernel
theorem dX8_start_43 : decode cX8_start 43 = .ok (.iconst 0, 1) := by decide +kernel
theorem dX8_start_44 : decode cX8_start 44 = .ok (.istore_n 2, 1) := by decide +kernel
theorem dX8_start_45 : decode cX8_start 45 = .ok (.iload_n 2, 1) := by decide +kernel
theorem dX8_start_46 : decode cX8_start 46 = .ok (.aload_n 1, 1) := by decide +kernel
theorem dX8_start_47 : decode cX8_start 47 = .ok (.getfield 41, 3) := by decide +kernel
theorem dX8_start_50 : decode cX8_start 50 = .ok (.if_icmp .ge 32, 3) := by decide +kernel
theorem dX8_start_53 : decode cX8_start 53 = .ok (.aload_n 0, 1) := by decide +kernel
theorem dX8_start_54 : decode cX8_start 54 = .ok (.aload_n 1, 1) := by decide +kernel
theorem dX8_start_55 : decode cX8_start 55 = .ok (.getfield 42, 3) := by decide +kernel
theorem dX8_start_58 : decode cX8_start 58 = .ok (.iload_n 2, 1) := by decide +kernel
theorem dX8_start_59 : decode cX8_start 59 = .ok (.iaload, 1) := by decide +kernel
theorem dX8_start_60 : decode cX8_start 60 = .ok (.aload_n 1, 1) := by decide +kernel
theorem dX8_start_61 : decode cX8_start 61 = .ok (.getfield 43, 3) := by decide +kernel
theorem dX8_start_64 : decode cX8_start 64 = .ok (.iload_n 2, 1) := by decide +kernel
theorem dX8_start_65 : decode cX8_start 65 = .ok (.iaload, 1) := by decide +kernel
theorem dX8_start_66 : decode cX8_start 66 = .ok (.aload_n 1, 1) := by decide +kernel
theorem dX8_start_67 : decode cX8_start 67 = .ok (.getfield 44, 3) := by decide +kernel
theorem dX8_start_70 : decode cX8_start 70 = .ok (.iload_n 2, 1) := by decide +kernel
theorem dX8_start_71 : decode cX8_start 71 = .ok (.iaload, 1) := by decide +kernel
theorem dX8_start_72 : decode cX8_start 72 = .ok (.invokevirtual 45, 3) := by decide +kernel
theorem dX8_start_75 : decode cX8_start 75 = .ok (.pop, 1) := by decide +kernel
theorem dX8_start_76 : decode cX8_start 76 = .ok (.iinc 2 1, 3) := by decide +kernel
theorem dX8_start_79 : decode cX8_start 79 = .ok (.goto (-34), 3) := by decide +kernel
theorem dX8_start_82 : decode cX8_start 82 = .ok (.return_, 1) := by decide +kernel
theorem dX8_copyFrom_0 : decode cX8_copyFrom 0 = .ok (.aload_n 0, 1) := by decide +kernel
theorem dX8_copyFrom_1 : decode cX8_copyFrom 1 = .ok (.aload_n 1, 1) := by decide +kernel
theorem dX8_copyFrom_2 : decode cX8_copyFrom 2 = .ok (.getfield 9, 3) := by decide +kernel
theorem dX8_copyFrom_5 : decode cX8_copyFrom 5 = .ok (.putfield 9, 3) := by decide +kernel
theorem dX8_copyFrom_8 : decode cX8_copyFrom 8 = .ok (.aload_n 0, 1) := by decide +kernel
theorem dX8_copyFrom_9 : decode cX8_copyFrom 9 = .ok (.aload_n 1, 1) := by decide +kernel
theorem dX8_copyFrom_10 : decode cX8_copyFrom 10 = .ok (.getfield 15, 3) := by decide +kernel
theorem dX8_copyFrom_13 : decode cX8_copyFrom 13 = .ok (.putfield 15, 3) := by decide +kernel
theorem dX8_copyFrom_16 : decode cX8_copyFrom 16 = .ok (.iconst 0, 1) := by decide +kernel
theorem dX8_copyFrom_17 : decode cX8_copyFrom 17 = .ok (.istore_n 2, 1) := by decide +kernel
theorem dX8_copyFrom_18 : decode cX8_copyFrom 18 = .ok (.iload_n 2, 1) := by decide +kernel
theorem dX8_copyFrom_19 : decode cX8_copyFrom 19 = .ok (.bipush 6, 2) := by decide +kernel
theorem dX8_copyFrom_21 : decode cX8_copyFrom 21 = .ok (.if_icmp .ge 33, 3) := by decide +kernel
theorem dX8_copyFrom_24 : decode cX8_copyFrom 24 = .ok (.aload_n 0, 1) := by decide +kernel
theorem dX8_copyFrom_25 : decode cX8_copyFrom 25 = .ok (.getfield 18, 3) := by decide +kernel
theorem dX8_copyFrom_28 : decode cX8_copyFrom 28 = .ok (.iload_n 2, 1) := by decide +kernel
theorem dX8_copyFrom_29 : decode cX8_copyFrom 29 = .ok (.aload_n 1, 1) := by decide +kernel
theorem dX8_copyFrom_30 : decode cX8_copyFrom 30 = .ok (.getfield 18, 3) := by decide +kernel
theorem dX8_copyFrom_33 : decode cX8_copyFrom 33 = .ok (.iload_n 2, 1) := by decide +kernel
theorem dX8_copyFrom_34 : decode cX8_copyFrom 34 = .ok (.iaload, 1) := by decide +kernel
theorem dX8_copyFrom_35 : decode cX8_copyFrom 35 = .ok (.iastore, 1) := by decide +kernel
theorem dX8_copyFrom_36 : decode cX8_copyFrom 36 = .ok (.aload_n 0, 1) := by decide +kernel
theorem dX8_copyFrom_37 : decode cX8_copyFrom 37 = .ok (.getfield 22, 3) := by decide +kernel
theorem dX8_copyFrom_40 : decode cX8_copyFrom 40 = .ok (.iload_n 2, 1) := by decide +kernel
theorem dX8_copyFrom_41 : decode cX8_copyFrom 41 = .ok (.aload_n 1, 1) := by decide +kernel
theorem dX8_copyFrom_42 : decode cX8_copyFrom 42 = .ok (.getfield 22, 3) := by decide +kernel
theorem dX8_copyFrom_45 : decode cX8_copyFrom 45 = .ok (.iload_n 2, 1) := by decide +kernel
theorem dX8_copyFrom_46 : decode cX8_copyFrom 46 = .ok (.baload, 1) := by decide +kernel
theorem dX8_copyFrom_47 : decode cX8_copyFrom 47 = .ok (.bastore, 1) := by decide +kernel
theorem dX8_copyFrom_48 : decode cX8_copyFrom 48 = .ok (.iinc 2 1, 3) := by decide +kernel
theorem dX8_copyFrom_51 : decode cX8_copyFrom 51 = .ok (.goto (-33), 3) := by decide +kernel
theorem dX8_copyFrom_54 : decode cX8_copyFrom 54 = .ok (.iconst 0, 1) := by decide +kernel
theorem dX8_copyFrom_55 : decode cX8_copyFrom 55 = .ok (.istore_n 2, 1) := by decide +kernel
theorem dX8_copyFrom_56 : decode cX8_copyFrom 56 = .ok (.iload_n 2, 1) := by decide +kernel
theorem dX8_copyFrom_57 : decode cX8_copyFrom 57 = .ok (.bipush 7, 2) := by decide +kernel
theorem dX8_copyFrom_59 : decode cX8_copyFrom 59 = .ok (.if_icmp .ge 57, 3) := by decide +kernel
theorem dX8_copyFrom_62 : decode cX8_copyFrom 62 = .ok (.aload_n 0, 1) := by decide +kernel
theorem dX8_copyFrom_63 : decode cX8_copyFrom 63 = .ok (.getfield 26, 3) := by decide +kernel
theorem dX8_copyFrom_66 : decode cX8_copyFrom 66 = .ok (.iload_n 2, 1) := by decide +kernel
theorem dX8_copyFrom_67 : decode cX8_copyFrom 67 = .ok (.aload_n 1, 1) := by decide +kernel
theorem dX8_copyFrom_68 : decode cX8_copyFrom 68 = .ok (.getfield 26, 3) := by decide +kernel
theorem dX8_copyFrom_71 : decode cX8_copyFrom 71 = .ok (.iload_n 2, 1) := by decide +kernel
theorem dX8_copyFrom_72 : decode cX8_copyFrom 72 = .ok (.iaload, 1) := by decide +kernel
theorem dX8_copyFrom_73 : decode cX8_copyFrom 73 = .ok (.iastore, 1) := by decide +kernel
theorem dX8_copyFrom_74 : decode cX8_copyFrom 74 = .ok (.aload_n 0, 1) := by decide +kernel
theorem dX8_copyFrom_75 : decode cX8_copyFrom 75 = .ok (.getfield 29, 3) := by decide +kernel
theorem dX8_copyFrom_78 : decode cX8_copyFrom 78 = .ok (.iload_n 2, 1) := by decide +kernel
theorem dX8_copyFrom_79 : decode cX8_copyFrom 79 = .ok (.aload_n 1, 1) := by decide +kernel
theorem dX8_copyFrom_80 : decode cX8_copyFrom 80 = .ok (.getfield 29, 3) := by decide +kernel
theorem dX8_copyFrom_83 : decode cX8_copyFrom 83 = .ok (.iload_n 2, 1) := by decide +kernel
theorem dX8_copyFrom_84 : decode cX8_copyFrom 84 = .ok (.iaload, 1) := by decide +kernel
theorem dX8_copyFrom_85 : decode cX8_copyFrom 85 = .ok (.iastore, 1) := by decide +kernel
theorem dX8_copyFrom_86 : decode cX8_copyFrom 86 = .ok (.aload_n 0, 1) := by decide +kernel
theorem dX8_copyFrom_87 : decode cX8_copyFrom 87 = .ok (.getfield 32, 3) := by decide +kernel
theorem dX8_copyFrom_90 : decode cX8_copyFrom 90 = .ok (.iload_n 2, 1) := by decide +kernel
theorem dX8_copyFrom_91 : decode cX8_copyFrom 91 = .ok (.aload_n 1, 1) := by decide +kernel
theorem dX8_copyFrom_92 : decode cX8_copyFrom 92 = .ok (.getfield 32, 3) := by decide +kernel
theorem dX8_copyFrom_95 : decode cX8_copyFrom 95 = .ok (.iload_n 2, 1) := by decide +kernel
theorem dX8_copyFrom_96 : decode cX8_copyFrom 96 = .ok (.iaload, 1) := by decide +kernel
theorem dX8_copyFrom_97 : decode cX8_copyFrom 97 = .ok (.iastore, 1) := by decide +kernel
theorem dX8_copyFrom_98 : decode cX8_copyFrom 98 = .ok (.aload_n 0, 1) := by decide +kernel
theorem dX8_copyFrom_99 : decode cX8_copyFrom 99 = .ok (.getfield 35, 3) := by decide +kernel
theorem dX8_copyFrom_102 : decode cX8_copyFrom 102 = .ok (.iload_n 2, 1) := by decide +kernel
theorem dX8_copyFrom_103 : decode cX8_copyFrom 103 = .ok (.aload_n 1, 1) := by decide +kernel
theorem dX8_copyFrom_104 : decode cX8_copyFrom 104 = .ok (.getfield 35, 3) := by decide +kernel
theorem dX8_copyFrom_107 : decode cX8_copyFrom 107 = .ok (.iload_n 2, 1) := by decide +kernel
theorem dX8_copyFrom_108 : decode cX8_copyFrom 108 = .ok (.iaload, 1) := by decide +kernel
theorem dX8_copyFrom_109 : decode cX8_copyFrom 109 = .ok (.iastore, 1) := by decide +kernel
theorem dX8_copyFrom_110 : decode cX8_copyFrom 110 = .ok (.iinc 2 1, 3) := by decide +kernel
theorem dX8_copyFrom_113 : decode cX8_copyFrom 113 = .ok (.goto (-57), 3) := by decide +kernel
theorem dX8_copyFrom_116 : decode cX8_copyFrom 116 = .ok (.return_, 1) := by decide +kernel
theorem dX8_addThing_0 : decode cX8_addThing 0 = .ok (.aload_n 0, 1) := by decide +kernel
theorem dX8_addThing_1 : decode cX8_addThing 1 = .ok (.getfield 15, 3) := by decide +kernel
theorem dX8_addThing_4 : decode cX8_addThing 4 = .ok (.bipush 7, 2) := by decide +kernel
theorem dX8_addThing_6 : decode cX8_addThing 6 = .ok (.if_icmp .lt 6, 3) := by decide +kernel
theorem dX8_addThing_9 : decode cX8_addThing 9 = .ok (.bipush (-3), 2) := by decide +kernel
theorem dX8_addThing_11 : decode cX8_addThing 11 = .ok (.ireturn, 1) := by decide +kernel
theorem dX8_addThing_12 : decode cX8_addThing 12 = .ok (.aload_n 0, 1) := by decide +kernel
theorem dX8_addThing_13 : decode cX8_addThing 13 = .ok (.getfield 26, 3) := by decide +kernel
theorem dX8_addThing_16 : decode cX8_addThing 16 = .ok (.aload_n 0, 1) := by decide +kernel
theorem dX8_addThing_17 : decode cX8_addThing 17 = .ok (.getfield 15, 3) := by decide +kernel
theorem dX8_addThing_20 : decode cX8_addThing 20 = .ok (.iload_n 1, 1) := by decide +kernel
theorem dX8_addThing_21 : decode cX8_addThing 21 = .ok (.iastore, 1) := by decide +kernel
theorem dX8_addThing_22 : decode cX8_addThing 22 = .ok (.aload_n 0, 1) := by decide +kernel
theorem dX8_addThing_23 : decode cX8_addThing 23 = .ok (.getfield 29, 3) := by decide +kernel
theorem dX8_addThing_26 : decode cX8_addThing 26 = .ok (.aload_n 0, 1) := by decide +kernel
theorem dX8_addThing_27 : decode cX8_addThing 27 = .ok (.getfield 15, 3) := by decide +kernel
theorem dX8_addThing_30 : decode cX8_addThing 30 = .ok (.iload_n 2, 1) := by decide +kernel
theorem dX8_addThing_31 : decode cX8_addThing 31 = .ok (.iastore, 1) := by decide +kernel
theorem dX8_addThing_32 : decode cX8_addThing 32 = .ok (.aload_n 0, 1) := by decide +kernel
theorem dX8_addThing_33 : decode cX8_addThing 33 = .ok (.getfield 32, 3) := by decide +kernel
theorem dX8_addThing_36 : decode cX8_addThing 36 = .ok (.aload_n 0, 1) := by decide +kernel
theorem dX8_addThing_37 : decode cX8_addThing 37 = .ok (.getfield 15, 3) := by decide +kernel
theorem dX8_addThing_40 : decode cX8_addThing 40 = .ok (.iload_n 3, 1) := by decide +kernel
theorem dX8_addThing_41 : decode cX8_addThing 41 = .ok (.iastore, 1) := by decide +kernel
theorem dX8_addThing_42 : decode cX8_addThing 42 = .ok (.aload_n 0, 1) := by decide +kernel
theorem dX8_addThing_43 : decode cX8_addThing 43 = .ok (.getfield 35, 3) := by decide +kernel
theorem dX8_addThing_46 : decode cX8_addThing 46 = .ok (.aload_n 0, 1) := by decide +kernel
theorem dX8_addThing_47 : decode cX8_addThing 47 = .ok (.getfield 15, 3) := by decide +kernel
theorem dX8_addThing_50 : decode cX8_addThing 50 = .ok (.bipush (-4), 2) := by decide +kernel
theorem dX8_addThing_52 : decode cX8_addThing 52 = .ok (.iastore, 1) := by decide +kernel
theorem dX8_addThing_53 : decode cX8_addThing 53 = .ok (.aload_n 0, 1) := by decide +kernel
theorem dX8_addThing_54 : decode cX8_addThing 54 = .ok (.dup, 1) := by decide +kernel
theorem dX8_addThing_55 : decode cX8_addThing 55 = .ok (.getfield 15, 3) := by decide +kernel
theorem dX8_addThing_58 : decode cX8_addThing 58 = .ok (.iconst 1, 1) := by decide +kernel
theorem dX8_addThing_59 : decode cX8_addThing 59 = .ok (.iadd, 1) := by decide +kernel
theorem dX8_addThing_60 : decode cX8_addThing 60 = .ok (.putfield 15, 3) := by decide +kernel
theorem dX8_addThing_63 : decode cX8_addThing 63 = .ok (.aload_n 0, 1) := by decide +kernel
theorem dX8_addThing_64 : decode cX8_addThing 64 = .ok (.getfield 15, 3) := by decide +kernel
theorem dX8_addThing_67 : decode cX8_addThing 67 = .ok (.iconst 1, 1) := by decide +kernel
theorem dX8_addThing_68 : decode cX8_addThing 68 = .ok (.isub, 1) := by decide +kernel
theorem dX8_addThing_69 : decode cX8_addThing 69 = .ok (.ireturn, 1) := by decide +kernel
theorem dX8_hangTown_0 : decode cX8_hangTown 0 = .ok (.aload_n 0, 1) := by decide +kernel
theorem dX8_hangTown_1 : decode cX8_hangTown 1 = .ok (.getfield 18, 3) := by decide +kernel
theorem dX8_hangTown_4 : decode cX8_hangTown 4 = .ok (.iload_n 1, 1) := by decide +kernel
theorem dX8_hangTown_5 : decode cX8_hangTown 5 = .ok (.iload_n 2, 1) := by decide +kernel
theorem dX8_hangTown_6 : decode cX8_hangTown 6 = .ok (.iastore, 1) := by decide +kernel
theorem dX8_hangTown_7 : decode cX8_hangTown 7 = .ok (.iconst 0, 1) := by decide +kernel
theorem dX8_hangTown_8 : decode cX8_hangTown 8 = .ok (.istore_n 3, 1) := by decide +kernel
theorem dX8_hangTown_9 : decode cX8_hangTown 9 = .ok (.iload_n 3, 1) := by decide +kernel
theorem dX8_hangTown_10 : decode cX8_hangTown 10 = .ok (.aload_n 0, 1) := by decide +kernel
theorem dX8_hangTown_11 : decode cX8_hangTown 11 = .ok (.getfield 15, 3) := by decide +kernel
theorem dX8_hangTown_14 : decode cX8_hangTown 14 = .ok (.if_icmp .ge 26, 3) := by decide +kernel
theorem dX8_hangTown_17 : decode cX8_hangTown 17 = .ok (.aload_n 0, 1) := by decide +kernel
theorem dX8_hangTown_18 : decode cX8_hangTown 18 = .ok (.getfield 35, 3) := by decide +kernel
theorem dX8_hangTown_21 : decode cX8_hangTown 21 = .ok (.iload_n 3, 1) := by decide +kernel
theorem dX8_hangTown_22 : decode cX8_hangTown 22 = .ok (.iaload, 1) := by decide +kernel
theorem dX8_hangTown_23 : decode cX8_hangTown 23 = .ok (.iload_n 1, 1) := by decide +kernel
theorem dX8_hangTown_24 : decode cX8_hangTown 24 = .ok (.if_icmp .ne 10, 3) := by decide +kernel
theorem dX8_hangTown_27 : decode cX8_hangTown 27 = .ok (.aload_n 0, 1) := by decide +kernel
theorem dX8_hangTown_28 : decode cX8_hangTown 28 = .ok (.getfield 29, 3) := by decide +kernel
theorem dX8_hangTown_31 : decode cX8_hangTown 31 = .ok (.iload_n 3, 1) := by decide +kernel
theorem dX8_hangTown_32 : decode cX8_hangTown 32 = .ok (.iload_n 2, 1) := by decide +kernel
theorem dX8_hangTown_33 : decode cX8_hangTown 33 = .ok (.iastore, 1) := by decide +kernel
theorem dX8_hangTown_34 : decode cX8_hangTown 34 = .ok (.iinc 3 1, 3) := by decide +kernel
theorem dX8_hangTown_37 : decode cX8_hangTown 37 = .ok (.goto (-28), 3) := by decide +kernel
theorem dX8_hangTown_40 : decode cX8_hangTown 40 = .ok (.return_, 1) := by decide +kernel
theorem dX8_cutTown_0 : decode cX8_cutTown 0 = .ok (.aload_n 0, 1) := by decide +kernel
theorem dX8_cutTown_1 : decode cX8_cutTown 1 = .ok (.getfield 22, 3) := by decide +kernel
theorem dX8_cutTown_4 : decode cX8_cutTown 4 = .ok (.iload_n 1, 1) := by decide +kernel
theorem dX8_cutTown_5 : decode cX8_cutTown 5 = .ok (.iconst 1, 1) := by decide +kernel
theorem dX8_cutTown_6 : decode cX8_cutTown 6 = .ok (.bastore, 1) := by decide +kernel
theorem dX8_cutTown_7 : decode cX8_cutTown 7 = .ok (.iconst 0, 1) := by decide +kernel
theorem dX8_cutTown_8 : decode cX8_cutTown 8 = .ok (.istore_n 2, 1) := by decide +kernel
theorem dX8_cutTown_9 : decode cX8_cutTown 9 = .ok (.iload_n 2, 1) := by decide +kernel
theorem dX8_cutTown_10 : decode cX8_cutTown 10 = .ok (.aload_n 0, 1) := by decide +kernel
theorem dX8_cutTown_11 : decode cX8_cutTown 11 = .ok (.getfield 15, 3) := by decide +kernel
theorem dX8_cutTown_14 : decode cX8_cutTown 14 = .ok (.if_icmp .ge 27, 3) := by decide +kernel
theorem dX8_cutTown_17 : decode cX8_cutTown 17 = .ok (.aload_n 0, 1) := by decide +kernel
theorem dX8_cutTown_18 : decode cX8_cutTown 18 = .ok (.getfield 35, 3) := by decide +kernel
theorem dX8_cutTown_21 : decode cX8_cutTown 21 = .ok (.iload_n 2, 1) := by decide +kernel
theorem dX8_cutTown_22 : decode cX8_cutTown 22 = .ok (.iaload, 1) := by decide +kernel
theorem dX8_cutTown_23 : decode cX8_cutTown 23 = .ok (.iload_n 1, 1) := by decide +kernel
theorem dX8_cutTown_24 : decode cX8_cutTown 24 = .ok (.if_icmp .ne 11, 3) := by decide +kernel
theorem dX8_cutTown_27 : decode cX8_cutTown 27 = .ok (.aload_n 0, 1) := by decide +kernel
theorem dX8_cutTown_28 : decode cX8_cutTown 28 = .ok (.getfield 35, 3) := by decide +kernel
theorem dX8_cutTown_31 : decode cX8_cutTown 31 = .ok (.iload_n 2, 1) := by decide +kernel
theorem dX8_cutTown_32 : decode cX8_cutTown 32 = .ok (.bipush (-4), 2) := by decide +kernel
theorem dX8_cutTown_34 : decode cX8_cutTown 34 = .ok (.iastore, 1) := by decide +kernel
theorem dX8_cutTown_35 : decode cX8_cutTown 35 = .ok (.iinc 2 1, 3) := by decide +kernel
theorem dX8_cutTown_38 : decode cX8_cutTown 38 = .ok (.goto (-29), 3) := by decide +kernel
theorem dX8_cutTown_41 : decode cX8_cutTown 41 = .ok (.return_, 1) := by decide +kernel
theorem dX9_init_0 : decode cX9_init 0 = .ok (.aload_n 0, 1) := by decide +kernel
theorem dX9_init_1 : decode cX9_init 1 = .ok (.invokespecial 3, 3) := by decide +kernel
theorem dX9_init_4 : decode cX9_init 4 = .ok (.aload_n 0, 1) := by decide +kernel
theorem dX9_init_5 : decode cX9_init 5 = .ok (.sipush 200, 3) := by decide +kernel
theorem dX9_init_8 : decode cX9_init 8 = .ok (.newarray .int, 2) := by decide +kernel
theorem dX9_init_10 : decode cX9_init 10 = .ok (.putfield 9, 3) := by decide +kernel
theorem dX9_init_13 : decode cX9_init 13 = .ok (.aload_n 0, 1) := by decide +kernel
theorem dX9_init_14 : decode cX9_init 14 = .ok (.iconst 4, 1) := by decide +kernel
theorem dX9_init_15 : decode cX9_init 15 = .ok (.newarray .int, 2) := by decide +kernel
theorem dX9_init_17 : decode cX9_init 17 = .ok (.putfield 15, 3) := by decide +kernel
theorem dX9_init_20 : decode cX9_init 20 = .ok (.aload_n 0, 1) := by decide +kernel
theorem dX9_init_21 : decode cX9_init 21 = .ok (.iconst 0, 1) := by decide +kernel
theorem dX9_init_22 : decode cX9_init 22 = .ok (.putfield 18, 3) := by decide +kernel
theorem dX9_init_25 : decode cX9_init 25 = .ok (.aload_n 0, 1) := by decide +kernel
theorem dX9_init_26 : decode cX9_init 26 = .ok (.iconst 0, 1) := by decide +kernel
theorem dX9_init_27 : decode cX9_init 27 = .ok (.putfield 22, 3) := by decide +kernel
theorem dX9_init_30 : decode cX9_init 30 = .ok (.return_, 1) := by decide +kernel
theorem dX9_add_0 : decode cX9_add 0 = .ok (.aload_n 0, 1) := by decide +kernel
theorem dX9_add_1 : decode cX9_add 1 = .ok (.getfield 22, 3) := by decide +kernel
theorem dX9_add_4 : decode cX9_add 4 = .ok (.sipush 200, 3) := by decide +kernel
theorem dX9_add_7 : decode cX9_add 7 = .ok (.if_icmp .lt 5, 3) := by decide +kernel
theorem dX9_add_10 : decode cX9_add 10 = .ok (.iconst 0, 1) := by decide +kernel
theorem dX9_add_11 : decode cX9_add 11 = .ok (.ireturn, 1) := by decide +kernel
theorem dX9_add_12 : decode cX9_add 12 = .ok (.aload_n 0, 1) := by decide +kernel
theorem dX9_add_13 : decode cX9_add 13 = .ok (.getfield 9, 3) := by decide +kernel
theorem dX9_add_16 : decode cX9_add 16 = .ok (.aload_n 0, 1) := by decide +kernel
theorem dX9_add_17 : decode cX9_add 17 = .ok (.getfield 22, 3) := by decide +kernel
theorem dX9_add_20 : decode cX9_add 20 = .ok (.iload_n 1, 1) := by decide +kernel
theorem dX9_add_21 : decode cX9_add 21 = .ok (.iastore, 1) := by decide +kernel
theorem dX9_add_22 : decode cX9_add 22 = .ok (.aload_n 0, 1) := by decide +kernel
theorem dX9_add_23 : decode cX9_add 23 = .ok (.dup, 1) := by decide +kernel
theorem dX9_add_24 : decode cX9_add 24 = .ok (.getfield 22, 3) := by decide +kernel
theorem dX9_add_27 : decode cX9_add 27 = .ok (.iconst 1, 1) := by decide +kernel
theorem dX9_add_28 : decode cX9_add 28 = .ok (.iadd, 1) := by decide +kernel
theorem dX9_add_29 : decode cX9_add 29 = .ok (.putfield 22, 3) := by decide +kernel
theorem dX9_add_32 : decode cX9_add 32 = .ok (.iconst 1, 1) := by decide +kernel
theorem dX9_add_33 : decode cX9_add 33 = .ok (.ireturn, 1) := by decide +kernel
theorem dX9_empty_0 : decode cX9_empty 0 = .ok (.aload_n 0, 1) := by decide +kernel
theorem dX9_empty_1 : decode cX9_empty 1 = .ok (.getfield 22, 3) := by decide +kernel
theorem dX9_empty_4 : decode cX9_empty 4 = .ok (.istore_n 1, 1) := by decide +kernel
theorem dX9_empty_5 : decode cX9_empty 5 = .ok (.aload_n 0, 1) := by decide +kernel
theorem dX9_empty_6 : decode cX9_empty 6 = .ok (.iconst 0, 1) := by decide +kernel
theorem dX9_empty_7 : decode cX9_empty 7 = .ok (.putfield 22, 3) := by decide +kernel
theorem dX9_empty_10 : decode cX9_empty 10 = .ok (.iload_n 1, 1) := by decide +kernel
theorem dX9_empty_11 : decode cX9_empty 11 = .ok (.ireturn, 1) := by decide +kernel
theorem dX9_readInto_0 : decode cX9_readInto 0 = .ok (.aload_n 1, 1) := by decide +kernel
theorem dX9_readInto_1 : decode cX9_readInto 1 = .ok (.invokevirtual 25, 3) := by decide +kernel
theorem dX9_readInto_4 : decode cX9_readInto 4 = .ok (.iconst 0, 1) := by decide +kernel
theorem dX9_readInto_5 : decode cX9_readInto 5 = .ok (.istore_n 2, 1) := by decide +kernel
theorem dX9_readInto_6 : decode cX9_readInto 6 = .ok (.iconst 0, 1) := by decide +kernel
theorem dX9_readInto_7 : decode cX9_readInto 7 = .ok (.istore_n 3, 1) := by decide +kernel
theorem dX9_readInto_8 : decode cX9_readInto 8 = .ok (.iload_n 2, 1) := by decide +kernel
theorem dX9_readInto_9 : decode cX9_readInto 9 = .ok (.aload_n 0, 1) := by decide +kernel
theorem dX9_readInto_10 : decode cX9_readInto 10 = .ok (.getfield 22, 3) := by decide +kernel
theorem dX9_readInto_13 : decode cX9_readInto 13 = .ok (.if_icmp .ge 56, 3) := by decide +kernel
theorem dX9_readInto_16 : decode cX9_readInto 16 = .ok (.iload_n 3, 1) := by decide +kernel
theorem dX9_readInto_17 : decode cX9_readInto 17 = .ok (.sipush 200, 3) := by decide +kernel
theorem dX9_readInto_20 : decode cX9_readInto 20 = .ok (.if_icmp .ge 49, 3) := by decide +kernel
theorem dX9_readInto_23 : decode cX9_readInto 23 = .ok (.aload_n 0, 1) := by decide +kernel
theorem dX9_readInto_24 : decode cX9_readInto 24 = .ok (.iload_n 2, 1) := by decide +kernel
theorem dX9_readInto_25 : decode cX9_readInto 25 = .ok (.invokevirtual 30, 3) := by decide +kernel
theorem dX9_readInto_28 : decode cX9_readInto 28 = .ok (.istore 4, 2) := by decide +kernel
theorem dX9_readInto_30 : decode cX9_readInto 30 = .ok (.iload 4, 2) := by decide +kernel
theorem dX9_readInto_32 : decode cX9_readInto 32 = .ok (.bipush (-2), 2) := by decide +kernel
theorem dX9_readInto_34 : decode cX9_readInto 34 = .ok (.if_icmp .eq 24, 3) := by decide +kernel
theorem dX9_readInto_37 : decode cX9_readInto 37 = .ok (.aload_n 1, 1) := by decide +kernel
theorem dX9_readInto_38 : decode cX9_readInto 38 = .ok (.aload_n 0, 1) := by decide +kernel
theorem dX9_readInto_39 : decode cX9_readInto 39 = .ok (.getfield 9, 3) := by decide +kernel
theorem dX9_readInto_42 : decode cX9_readInto 42 = .ok (.iload_n 2, 1) := by decide +kernel
theorem dX9_readInto_43 : decode cX9_readInto 43 = .ok (.iaload, 1) := by decide +kernel
theorem dX9_readInto_44 : decode cX9_readInto 44 = .ok (.aload_n 0, 1) := by decide +kernel
theorem dX9_readInto_45 : decode cX9_readInto 45 = .ok (.getfield 15, 3) := by decide +kernel
theorem dX9_readInto_48 : decode cX9_readInto 48 = .ok (.aload_n 0, 1) := by decide +kernel
theorem dX9_readInto_49 : decode cX9_readInto 49 = .ok (.getfield 18, 3) := by decide +kernel
theorem dX9_readInto_52 : decode cX9_readInto 52 = .ok (.invokevirtual 34, 3) := by decide +kernel
theorem dX9_readInto_55 : decode cX9_readInto 55 = .ok (.ifCond .ne 5, 3) := by decide +kernel
theorem dX9_readInto_58 : decode cX9_readInto 58 = .ok (.iload_n 2, 1) := by decide +kernel
theorem dX9_readInto_59 : decode cX9_readInto 59 = .ok (.ireturn, 1) := by decide +kernel
theorem dX9_readInto_60 : decode cX9_readInto 60 = .ok (.iload 4, 2) := by decide +kernel
theorem dX9_readInto_62 : decode cX9_readInto 62 = .ok (.istore_n 2, 1) := by decide +kernel
theorem dX9_readInto_63 : decode cX9_readInto 63 = .ok (.iinc 3 1, 3) := by decide +kernel
theorem dX9_readInto_66 : decode cX9_readInto 66 = .ok (.goto (-58), 3) := by decide +kernel
theorem dX9_readInto_69 : decode cX9_readInto 69 = .ok (.bipush (-4), 2) := by decide +kernel
theorem dX9_readInto_71 : decode cX9_readInto 71 = .ok (.ireturn, 1) := by decide +kernel
theorem dX9_splitItem_0 : decode cX9_splitItem 0 = .ok (.iload_n 1, 1) := by decide +kernel
theorem dX9_splitItem_1 : decode cX9_splitItem 1 = .ok (.iconst 1, 1) := by decide +kernel
theorem dX9_splitItem_2 : decode cX9_splitItem 2 = .ok (.iadd, 1) := by decide +kernel
theorem dX9_splitItem_3 : decode cX9_splitItem 3 = .ok (.istore_n 2, 1) := by decide +kernel
theorem dX9_splitItem_4 : decode cX9_splitItem 4 = .ok (.iconst 0, 1) := by decide +kernel
theorem dX9_splitItem_5 : decode cX9_splitItem 5 = .ok (.istore_n 3, 1) := by decide +kernel
theorem dX9_splitItem_6 : decode cX9_splitItem 6 = .ok (.iload_n 3, 1) := by decide +kernel
theorem dX9_splitItem_7 : decode cX9_splitItem 7 = .ok (.iconst 4, 1) := by decide +kernel
theorem dX9_splitItem_8 : decode cX9_splitItem 8 = .ok (.if_icmp .ge 83, 3) := by decide +kernel
theorem dX9_splitItem_11 : decode cX9_splitItem 11 = .ok (.aload_n 0, 1) := by decide +kernel
theorem dX9_splitItem_12 : decode cX9_splitItem 12 = .ok (.iload_n 2, 1) := by decide +kernel
theorem dX9_splitItem_13 : decode cX9_splitItem 13 = .ok (.invokevirtual 38, 3) := by decide +kernel
theorem dX9_splitItem_16 : decode cX9_splitItem 16 = .ok (.istore 4, 2) := by decide +kernel
theorem dX9_splitItem_18 : decode cX9_splitItem 18 = .ok (.iload 4, 2) := by decide +kernel
theorem dX9_splitItem_20 : decode cX9_splitItem 20 = .ok (.iconst 1, 1) := by decide +kernel
theorem dX9_splitItem_21 : decode cX9_splitItem 21 = .ok (.iconst 2, 1) := by decide +kernel
theorem dX9_splitItem_22 : decode cX9_splitItem 22 = .ok (.invokestatic 41, 3) := by decide +kernel
theorem dX9_splitItem_25 : decode cX9_splitItem 25 = .ok (.ifCond .ne 6, 3) := by decide +kernel
theorem dX9_splitItem_28 : decode cX9_splitItem 28 = .ok (.bipush (-2), 2) := by decide +kernel
theorem dX9_splitItem_30 : decode cX9_splitItem 30 = .ok (.ireturn, 1) := by decide +kernel
theorem dX9_splitItem_31 : decode cX9_splitItem 31 = .ok (.aload_n 0, 1) := by decide +kernel
theorem dX9_splitItem_32 : decode cX9_splitItem 32 = .ok (.getfield 15, 3) := by decide +kernel
theorem dX9_splitItem_35 : decode cX9_splitItem 35 = .ok (.iload_n 3, 1) := by decide +kernel
theorem dX9_splitItem_36 : decode cX9_splitItem 36 = .ok (.aload_n 0, 1) := by decide +kernel
theorem dX9_splitItem_37 : decode cX9_splitItem 37 = .ok (.iload_n 2, 1) := by decide +kernel
theorem dX9_splitItem_38 : decode cX9_splitItem 38 = .ok (.iload 4, 2) := by decide +kernel
theorem dX9_splitItem_40 : decode cX9_splitItem 40 = .ok (.invokevirtual 45, 3) := by decide +kernel
theorem dX9_splitItem_43 : decode cX9_splitItem 43 = .ok (.iastore, 1) := by decide +kernel
theorem dX9_splitItem_44 : decode cX9_splitItem 44 = .ok (.aload_n 0, 1) := by decide +kernel
theorem dX9_splitItem_45 : decode cX9_splitItem 45 = .ok (.iload_n 3, 1) := by decide +kernel
theorem dX9_splitItem_46 : decode cX9_splitItem 46 = .ok (.iconst 1, 1) := by decide +kernel
theorem dX9_splitItem_47 : decode cX9_splitItem 47 = .ok (.iadd, 1) := by decide +kernel
theorem dX9_splitItem_48 : decode cX9_splitItem 48 = .ok (.putfield 18, 3) := by decide +kernel
theorem dX9_splitItem_51 : decode cX9_splitItem 51 = .ok (.iload_n 2, 1) := by decide +kernel
theorem dX9_splitItem_52 : decode cX9_splitItem 52 = .ok (.iload 4, 2) := by decide +kernel
theorem dX9_splitItem_54 : decode cX9_splitItem 54 = .ok (.iadd, 1) := by decide +kernel
theorem dX9_splitItem_55 : decode cX9_splitItem 55 = .ok (.istore_n 2, 1) := by decide +kernel
theorem dX9_splitItem_56 : decode cX9_splitItem 56 = .ok (.aload_n 0, 1) := by decide +kernel
theorem dX9_splitItem_57 : decode cX9_splitItem 57 = .ok (.iload_n 2, 1) := by decide +kernel
theorem dX9_splitItem_58 : decode cX9_splitItem 58 = .ok (.invokevirtual 49, 3) := by decide +kernel
theorem dX9_splitItem_61 : decode cX9_splitItem 61 = .ok (.istore 5, 2) := by decide +kernel
theorem dX9_splitItem_63 : decode cX9_splitItem 63 = .ok (.iinc 2 1, 3) := by decide +kernel
theorem dX9_splitItem_66 : decode cX9_splitItem 66 = .ok (.iload 5, 2) := by decide +kernel
theorem dX9_splitItem_68 : decode cX9_splitItem 68 = .ok (.bipush 59, 2) := by decide +kernel
theorem dX9_splitItem_70 : decode cX9_splitItem 70 = .ok (.if_icmp .ne 5, 3) := by decide +kernel
theorem dX9_splitItem_73 : decode cX9_splitItem 73 = .ok (.iload_n 2, 1) := by decide +kernel
theorem dX9_splitItem_74 : decode cX9_splitItem 74 = .ok (.ireturn, 1) := by decide +kernel
theorem dX9_splitItem_75 : decode cX9_splitItem 75 = .ok (.iload 5, 2) := by decide +kernel
theorem dX9_splitItem_77 : decode cX9_splitItem 77 = .ok (.bipush 44, 2) := by decide +kernel
theorem dX9_splitItem_79 : decode cX9_splitItem 79 = .ok (.if_icmp .eq 6, 3) := by decide +kernel
theorem dX9_splitItem_82 : decode cX9_splitItem 82 = .ok (.bipush (-2), 2) := by decide +kernel
theorem dX9_splitItem_84 : decode cX9_splitItem 84 = .ok (.ireturn, 1) := by decide +kernel
theorem dX9_splitItem_85 : decode cX9_splitItem 85 = .ok (.iinc 3 1, 3) := by decide +kernel
theorem dX9_splitItem_88 : decode cX9_splitItem 88 = .ok (.goto (-82), 3) := by decide +kernel
theorem dX9_splitItem_91 : decode cX9_splitItem 91 = .ok (.bipush (-2), 2) := by decide +kernel
theorem dX9_splitItem_93 : decode cX9_splitItem 93 = .ok (.ireturn, 1) := by decide +kernel
theorem dX9_figuresFrom_0 : decode cX9_figuresFrom 0 = .ok (.iconst 0, 1) := by decide +kernel
theorem dX9_figuresFrom_1 : decode cX9_figuresFrom 1 = .ok (.istore_n 2, 1) := by decide +kernel
theorem dX9_figuresFrom_2 : decode cX9_figuresFrom 2 = .ok (.iload_n 2, 1) := by decide +kernel
theorem dX9_figuresFrom_3 : decode cX9_figuresFrom 3 = .ok (.sipush 200, 3) := by decide +kernel
theorem dX9_figuresFrom_6 : decode cX9_figuresFrom 6 = .ok (.if_icmp .ge 26, 3) := by decide +kernel
theorem dX9_figuresFrom_9 : decode cX9_figuresFrom 9 = .ok (.aload_n 0, 1) := by decide +kernel
theorem dX9_figuresFrom_10 : decode cX9_figuresFrom 10 = .ok (.iload_n 1, 1) := by decide +kernel
theorem dX9_figuresFrom_11 : decode cX9_figuresFrom 11 = .ok (.iload_n 2, 1) := by decide +kernel
theorem dX9_figuresFrom_12 : decode cX9_figuresFrom 12 = .ok (.iadd, 1) := by decide +kernel
theorem dX9_figuresFrom_13 : decode cX9_figuresFrom 13 = .ok (.invokevirtual 49, 3) := by decide +kernel
theorem dX9_figuresFrom_16 : decode cX9_figuresFrom 16 = .ok (.bipush 48, 2) := by decide +kernel
theorem dX9_figuresFrom_18 : decode cX9_figuresFrom 18 = .ok (.bipush 57, 2) := by decide +kernel
theorem dX9_figuresFrom_20 : decode cX9_figuresFrom 20 = .ok (.invokestatic 41, 3) := by decide +kernel
theorem dX9_figuresFrom_23 : decode cX9_figuresFrom 23 = .ok (.ifCond .eq 9, 3) := by decide +kernel
theorem dX9_figuresFrom_26 : decode cX9_figuresFrom 26 = .ok (.iinc 2 1, 3) := by decide +kernel
theorem dX9_figuresFrom_29 : decode cX9_figuresFrom 29 = .ok (.goto (-27), 3) := by decide +kernel
theorem dX9_figuresFrom_32 : decode cX9_figuresFrom 32 = .ok (.iload_n 2, 1) := by decide +kernel
theorem dX9_figuresFrom_33 : decode cX9_figuresFrom 33 = .ok (.ireturn, 1) := by decide +kernel
theorem dX9_numberFrom_0 : decode cX9_numberFrom 0 = .ok (.iconst 0, 1) := by decide +kernel
theorem dX9_numberFrom_1 : decode cX9_numberFrom 1 = .ok (.istore_n 3, 1) := by decide +kernel
theorem dX9_numberFrom_2 : decode cX9_numberFrom 2 = .ok (.iconst 0, 1) := by decide +kernel
theorem dX9_numberFrom_3 : decode cX9_numberFrom 3 = .ok (.istore 4, 2) := by decide +kernel
theorem dX9_numberFrom_5 : decode cX9_numberFrom 5 = .ok (.iload 4, 2) := by decide +kernel
theorem dX9_numberFrom_7 : decode cX9_numberFrom 7 = .ok (.iload_n 2, 1) := by decide +kernel
theorem dX9_numberFrom_8 : decode cX9_numberFrom 8 = .ok (.if_icmp .ge 26, 3) := by decide +kernel
theorem dX9_numberFrom_11 : decode cX9_numberFrom 11 = .ok (.iload_n 3, 1) := by decide +kernel
theorem dX9_numberFrom_12 : decode cX9_numberFrom 12 = .ok (.bipush 10, 2) := by decide +kernel
theorem dX9_numberFrom_14 : decode cX9_numberFrom 14 = .ok (.imul, 1) := by decide +kernel
theorem dX9_numberFrom_15 : decode cX9_numberFrom 15 = .ok (.aload_n 0, 1) := by decide +kernel
theorem dX9_numberFrom_16 : decode cX9_numberFrom 16 = .ok (.iload_n 1, 1) := by decide +kernel
theorem dX9_numberFrom_17 : decode cX9_numberFrom 17 = .ok (.iload 4, 2) := by decide +kernel
theorem dX9_numberFrom_19 : decode cX9_numberFrom 19 = .ok (.iadd, 1) := by decide +kernel
theorem dX9_numberFrom_20 : decode cX9_numberFrom 20 = .ok (.invokevirtual 49, 3) := by decide +kernel
theorem dX9_numberFrom_23 : decode cX9_numberFrom 23 = .ok (.iadd, 1) := by decide +kernel
theorem dX9_numberFrom_24 : decode cX9_numberFrom 24 = .ok (.bipush 48, 2) := by decide +kernel
theorem dX9_numberFrom_26 : decode cX9_numberFrom 26 = .ok (.isub, 1) := by decide +kernel
theorem dX9_numberFrom_27 : decode cX9_numberFrom 27 = .ok (.istore_n 3, 1) := by decide +kernel
theorem dX9_numberFrom_28 : decode cX9_numberFrom 28 = .ok (.iinc 4 1, 3) := by decide +kernel
theorem dX9_numberFrom_31 : decode cX9_numberFrom 31 = .ok (.goto (-26), 3) := by decide +kernel
theorem dX9_numberFrom_34 : decode cX9_numberFrom 34 = .ok (.iload_n 3, 1) := by decide +kernel
theorem dX9_numberFrom_35 : decode cX9_numberFrom 35 = .ok (.ireturn, 1) := by decide +kernel
theorem dX9_letterAt_0 : decode cX9_letterAt 0 = .ok (.iload_n 1, 1) := by decide +kernel
theorem dX9_letterAt_1 : decode cX9_letterAt 1 = .ok (.ifCond .lt 20, 3) := by decide +kernel
theorem dX9_letterAt_4 : decode cX9_letterAt 4 = .ok (.iload_n 1, 1) := by decide +kernel
theorem dX9_letterAt_5 : decode cX9_letterAt 5 = .ok (.aload_n 0, 1) := by decide +kernel
theorem dX9_letterAt_6 : decode cX9_letterAt 6 = .ok (.getfield 22, 3) := by decide +kernel
theorem dX9_letterAt_9 : decode cX9_letterAt 9 = .ok (.if_icmp .ge 12, 3) := by decide +kernel
theorem dX9_letterAt_12 : decode cX9_letterAt 12 = .ok (.aload_n 0, 1) := by decide +kernel
theorem dX9_letterAt_13 : decode cX9_letterAt 13 = .ok (.getfield 9, 3) := by decide +kernel
theorem dX9_letterAt_16 : decode cX9_letterAt 16 = .ok (.iload_n 1, 1) := by decide +kernel
theorem dX9_letterAt_17 : decode cX9_letterAt 17 = .ok (.iaload, 1) := by decide +kernel
theorem dX9_letterAt_18 : decode cX9_letterAt 18 = .ok (.goto 5, 3) := by decide +kernel
theorem dX9_letterAt_21 : decode cX9_letterAt 21 = .ok (.bipush (-4), 2) := by decide +kernel
theorem dX9_letterAt_23 : decode cX9_letterAt 23 = .ok (.ireturn, 1) := by decide +kernel
theorem dX10_init_0 : decode cX10_init 0 = .ok (.aload_n 0, 1) := by decide +kernel
theorem dX10_init_1 : decode cX10_init 1 = .ok (.invokespecial 3, 3) := by decide +kernel
theorem dX10_init_4 : decode cX10_init 4 = .ok (.aload_n 0, 1) := by decide +kernel
theorem dX10_init_5 : decode cX10_init 5 = .ok (.bipush 12, 2) := by decide +kernel
theorem dX10_init_7 : decode cX10_init 7 = .ok (.putfield 9, 3) := by decide +kernel
theorem dX10_init_10 : decode cX10_init 10 = .ok (.aload_n 0, 1) := by decide +kernel
theorem dX10_init_11 : decode cX10_init 11 = .ok (.iconst 0, 1) := by decide +kernel
theorem dX10_init_12 : decode cX10_init 12 = .ok (.putfield 15, 3) := by decide +kernel
theorem dX10_init_15 : decode cX10_init 15 = .ok (.aload_n 0, 1) := by decide +kernel
theorem dX10_init_16 : decode cX10_init 16 = .ok (.bipush 8, 2) := by decide +kernel
theorem dX10_init_18 : decode cX10_init 18 = .ok (.newarray .int, 2) := by decide +kernel
theorem dX10_init_20 : decode cX10_init 20 = .ok (.putfield 18, 3) := by decide +kernel
theorem dX10_init_23 : decode cX10_init 23 = .ok (.aload_n 0, 1) := by decide +kernel
theorem dX10_init_24 : decode cX10_init 24 = .ok (.bipush 8, 2) := by decide +kernel
theorem dX10_init_26 : decode cX10_init 26 = .ok (.newarray .int, 2) := by decide +kernel
theorem dX10_init_28 : decode cX10_init 28 = .ok (.putfield 22, 3) := by decide +kernel
theorem dX10_init_31 : decode cX10_init 31 = .ok (.aload_n 0, 1) := by decide +kernel
theorem dX10_init_32 : decode cX10_init 32 = .ok (.bipush 8, 2) := by decide +kernel
theorem dX10_init_34 : decode cX10_init 34 = .ok (.newarray .int, 2) := by decide +kernel
theorem dX10_init_36 : decode cX10_init 36 = .ok (.putfield 25, 3) := by decide +kernel
theorem dX10_init_39 : decode cX10_init 39 = .ok (.aload_n 0, 1) := by decide +kernel
theorem dX10_init_40 : decode cX10_init 40 = .ok (.iconst 0, 1) := by decide +kernel
theorem dX10_init_41 : decode cX10_init 41 = .ok (.putfield 28, 3) := by decide +kernel
theorem dX10_init_44 : decode cX10_init 44 = .ok (.aload_n 0, 1) := by decide +kernel
theorem dX10_init_45 : decode cX10_init 45 = .ok (.bipush 6, 2) := by decide +kernel
theorem dX10_init_47 : decode cX10_init 47 = .ok (.newarray .int, 2) := by decide +kernel
theorem dX10_init_49 : decode cX10_init 49 = .ok (.putfield 31, 3) := by decide +kernel
theorem dX10_init_52 : decode cX10_init 52 = .ok (.aload_n 0, 1) := by decide +kernel
theorem dX10_init_53 : decode cX10_init 53 = .ok (.bipush 6, 2) := by decide +kernel
theorem dX10_init_55 : decode cX10_init 55 = .ok (.newarray .int, 2) := by decide +kernel
theorem dX10_init_57 : decode cX10_init 57 = .ok (.putfield 34, 3) := by decide +kernel
theorem dX10_init_60 : decode cX10_init 60 = .ok (.aload_n 0, 1) := by decide +kernel
theorem dX10_init_61 : decode cX10_init 61 = .ok (.bipush 6, 2) := by decide +kernel
theorem dX10_init_63 : decode cX10_init 63 = .ok (.newarray .int, 2) := by decide +kernel
theorem dX10_init_65 : decode cX10_init 65 = .ok (.putfield 37, 3) := by decide +kernel
theorem dX10_init_68 : decode cX10_init 68 = .ok (.aload_n 0, 1) := by decide +kernel
theorem dX10_init_69 : decode cX10_init 69 = .ok (.bipush 6, 2) := by decide +kernel
theorem dX10_init_71 : decode cX10_init 71 = .ok (.newarray .int, 2) := by decide +kernel
theorem dX10_init_73 : decode cX10_init 73 = .ok (.putfield 40, 3) := by decide +kernel
theorem dX10_init_76 : decode cX10_init 76 = .ok (.aload_n 0, 1) := by decide +kernel
theorem dX10_init_77 : decode cX10_init 77 = .ok (.iconst 0, 1) := by decide +kernel
theorem dX10_init_78 : decode cX10_init 78 = .ok (.putfield 43, 3) := by decide +kernel
theorem dX10_init_81 : decode cX10_init 81 = .ok (.aload_n 0, 1) := by decide +kernel
theorem dX10_init_82 : decode cX10_init 82 = .ok (.bipush 8, 2) := by decide +kernel
theorem dX10_init_84 : decode cX10_init 84 = .ok (.newarray .int, 2) := by decide +kernel
theorem dX10_init_86 : decode cX10_init 86 = .ok (.putfield 46, 3) := by decide +kernel
theorem dX10_init_89 : decode cX10_init 89 = .ok (.aload_n 0, 1) := by decide +kernel
theorem dX10_init_90 : decode cX10_init 90 = .ok (.bipush 8, 2) := by decide +kernel
theorem dX10_init_92 : decode cX10_init 92 = .ok (.newarray .int, 2) := by decide +kernel
theorem dX10_init_94 : decode cX10_init 94 = .ok (.putfield 49, 3) := by decide +kernel
theorem dX10_init_97 : decode cX10_init 97 = .ok (.aload_n 0, 1) := by decide +kernel
theorem dX10_init_98 : decode cX10_init 98 = .ok (.iconst 0, 1) := by decide +kernel
theorem dX10_init_99 : decode cX10_init 99 = .ok (.putfield 52, 3) := by decide +kernel
theorem dX10_init_102 : decode cX10_init 102 = .ok (.aload_n 0, 1) := by decide +kernel
theorem dX10_init_103 : decode cX10_init 103 = .ok (.iconst 5, 1) := by decide +kernel
theorem dX10_init_104 : decode cX10_init 104 = .ok (.newarray .int, 2) := by decide +kernel
theorem dX10_init_106 : decode cX10_init 106 = .ok (.putfield 55, 3) := by decide +kernel
theorem dX10_init_109 : decode cX10_init 109 = .ok (.aload_n 0, 1) := by decide +kernel
theorem dX10_init_110 : decode cX10_init 110 = .ok (.iconst 5, 1) := by decide +kernel
theorem dX10_init_111 : decode cX10_init 111 = .ok (.newarray .int, 2) := by decide +kernel
theorem dX10_init_113 : decode cX10_init 113 = .ok (.putfield 58, 3) := by decide +kernel
theorem dX10_init_116 : decode cX10_init 116 = .ok (.aload_n 0, 1) := by decide +kernel
theorem dX10_init_117 : decode cX10_init 117 = .ok (.iconst 5, 1) := by decide +kernel
theorem dX10_init_118 : decode cX10_init 118 = .ok (.newarray .int, 2) := by decide +kernel
theorem dX10_init_120 : decode cX10_init 120 = .ok (.putfield 61, 3) := by decide +kernel
theorem dX10_init_123 : decode cX10_init 123 = .ok (.return_, 1) := by decide +kernel
theorem dX10_start_0 : decode cX10_start 0 = .ok (.aload_n 0, 1) := by decide +kernel
theorem dX10_start_1 : decode cX10_start 1 = .ok (.bipush 12, 2) := by decide +kernel
theorem dX10_start_3 : decode cX10_start 3 = .ok (.putfield 9, 3) := by decide +kernel
theorem dX10_start_6 : decode cX10_start 6 = .ok (.aload_n 0, 1) := by decide +kernel
theorem dX10_start_7 : decode cX10_start 7 = .ok (.iconst 0, 1) := by decide +kernel
theorem dX10_start_8 : decode cX10_start 8 = .ok (.putfield 15, 3) := by decide +kernel
theorem dX10_start_11 : decode cX10_start 11 = .ok (.aload_n 0, 1) := by decide +kernel
theorem dX10_start_12 : decode cX10_start 12 = .ok (.iconst 0, 1) := by decide +kernel
theorem dX10_start_13 : decode cX10_start 13 = .ok (.putfield 28, 3) := by decide +kernel
theorem dX10_start_16 : decode cX10_start 16 = .ok (.aload_n 0, 1) := by decide +kernel
theorem dX10_start_17 : decode cX10_start 17 = .ok (.iconst 0, 1) := by decide +kernel
theorem dX10_start_18 : decode cX10_start 18 = .ok (.putfield 43, 3) := by decide +kernel
theorem dX10_start_21 : decode cX10_start 21 = .ok (.aload_n 0, 1) := by decide +kernel
theorem dX10_start_22 : decode cX10_start 22 = .ok (.iconst 0, 1) := by decide +kernel
theorem dX10_start_23 : decode cX10_start 23 = .ok (.putfield 52, 3) := by decide +kernel
theorem dX10_start_26 : decode cX10_start 26 = .ok (.return_, 1) := by decide +kernel
theorem dX10_wrap_0 : decode cX10_wrap 0 = .ok (.aload_n 0, 1) := by decide +kernel
theorem dX10_wrap_1 : decode cX10_wrap 1 = .ok (.getfield 9, 3) := by decide +kernel
theorem dX10_wrap_4 : decode cX10_wrap 4 = .ok (.ifCond .le 14, 3) := by decide +kernel
theorem dX10_wrap_7 : decode cX10_wrap 7 = .ok (.iload_n 1, 1) := by decide +kernel
theorem dX10_wrap_8 : decode cX10_wrap 8 = .ok (.aload_n 0, 1) := by decide +kernel
theorem dX10_wrap_9 : decode cX10_wrap 9 = .ok (.getfield 9, 3) := by decide +kernel
theorem dX10_wrap_12 : decode cX10_wrap 12 = .ok (.invokestatic 64, 3) := by decide +kernel
theorem dX10_wrap_15 : decode cX10_wrap 15 = .ok (.goto 4, 3) := by decide +kernel
theorem dX10_wrap_18 : decode cX10_wrap 18 = .ok (.iconst 0, 1) := by decide +kernel
theorem dX10_wrap_19 : decode cX10_wrap 19 = .ok (.ireturn, 1) := by decide +kernel
theorem dX10_addItem_0 : decode cX10_addItem 0 = .ok (.aload_n 2, 1) := by decide +kernel
theorem dX10_addItem_1 : decode cX10_addItem 1 = .ok (.arraylength, 1) := by decide +kernel
theorem dX10_addItem_2 : decode cX10_addItem 2 = .ok (.iconst 4, 1) := by decide +kernel
theorem dX10_addItem_3 : decode cX10_addItem 3 = .ok (.if_icmp .ge 5, 3) := by decide +kernel
theorem dX10_addItem_6 : decode cX10_addItem 6 = .ok (.iconst 0, 1) := by decide +kernel
theorem dX10_addItem_7 : decode cX10_addItem 7 = .ok (.ireturn, 1) := by decide +kernel
theorem dX10_addItem_8 : decode cX10_addItem 8 = .ok (.iload_n 1, 1) := by decide +kernel
theorem dX10_addItem_9 : decode cX10_addItem 9 = .ok (.tableswitch 200 103 116 #[173, 200, 200, 200, 200, 92, 149, 71, 200, 200, 200, 200, 200, 119], 71) := by decide +kernel
theorem dX10_addItem_80 : decode cX10_addItem 80 = .ok (.iload_n 3, 1) := by decide +kernel
theorem dX10_addItem_81 : decode cX10_addItem 81 = .ok (.iconst 1, 1) := by decide +kernel
theorem dX10_addItem_82 : decode cX10_addItem 82 = .ok (.if_icmp .ne 17, 3) := by decide +kernel
theorem dX10_addItem_85 : decode cX10_addItem 85 = .ok (.aload_n 0, 1) := by decide +kernel
theorem dX10_addItem_86 : decode cX10_addItem 86 = .ok (.aload_n 2, 1) := by decide +kernel
theorem dX10_addItem_87 : decode cX10_addItem 87 = .ok (.iconst 0, 1) := by decide +kernel
theorem dX10_addItem_88 : decode cX10_addItem 88 = .ok (.iaload, 1) := by decide +kernel
theorem dX10_addItem_89 : decode cX10_addItem 89 = .ok (.invokevirtual 70, 3) := by decide +kernel
theorem dX10_addItem_92 : decode cX10_addItem 92 = .ok (.ifCond .eq 7, 3) := by decide +kernel
theorem dX10_addItem_95 : decode cX10_addItem 95 = .ok (.iconst 1, 1) := by decide +kernel
theorem dX10_addItem_96 : decode cX10_addItem 96 = .ok (.goto 4, 3) := by decide +kernel
theorem dX10_addItem_99 : decode cX10_addItem 99 = .ok (.iconst 0, 1) := by decide +kernel
theorem dX10_addItem_100 : decode cX10_addItem 100 = .ok (.ireturn, 1) := by decide +kernel
theorem dX10_addItem_101 : decode cX10_addItem 101 = .ok (.iload_n 3, 1) := by decide +kernel
theorem dX10_addItem_102 : decode cX10_addItem 102 = .ok (.iconst 3, 1) := by decide +kernel
theorem dX10_addItem_103 : decode cX10_addItem 103 = .ok (.if_icmp .ne 23, 3) := by decide +kernel
theorem dX10_addItem_106 : decode cX10_addItem 106 = .ok (.aload_n 0, 1) := by decide +kernel
theorem dX10_addItem_107 : decode cX10_addItem 107 = .ok (.aload_n 2, 1) := by decide +kernel
theorem dX10_addItem_108 : decode cX10_addItem 108 = .ok (.iconst 0, 1) := by decide +kernel
theorem dX10_addItem_109 : decode cX10_addItem 109 = .ok (.iaload, 1) := by decide +kernel
theorem dX10_addItem_110 : decode cX10_addItem 110 = .ok (.aload_n 2, 1) := by decide +kernel
theorem dX10_addItem_111 : decode cX10_addItem 111 = .ok (.iconst 1, 1) := by decide +kernel
theorem dX10_addItem_112 : decode cX10_addItem 112 = .ok (.iaload, 1) := by decide +kernel
theorem dX10_addItem_113 : decode cX10_addItem 113 = .ok (.aload_n 2, 1) := by decide +kernel
theorem dX10_addItem_114 : decode cX10_addItem 114 = .ok (.iconst 2, 1) := by decide +kernel
theorem dX10_addItem_115 : decode cX10_addItem 115 = .ok (.iaload, 1) := by decide +kernel
theorem dX10_addItem_116 : decode cX10_addItem 116 = .ok (.invokevirtual 74, 3) := by decide +kernel
theorem dX10_addItem_119 : decode cX10_addItem 119 = .ok (.ifCond .eq 7, 3) := by decide +kernel
theorem dX10_addItem_122 : decode cX10_addItem 122 = .ok (.iconst 1, 1) := by decide +kernel
theorem dX10_addItem_123 : decode cX10_addItem 123 = .ok (.goto 4, 3) := by decide +kernel
theorem dX10_addItem_126 : decode cX10_addItem 126 = .ok (.iconst 0, 1) := by decide +kernel
theorem dX10_addItem_127 : decode cX10_addItem 127 = .ok (.ireturn, 1) := by decide +kernel
theorem dX10_addItem_128 : decode cX10_addItem 128 = .ok (.iload_n 3, 1) := by decide +kernel
theorem dX10_addItem_129 : decode cX10_addItem 129 = .ok (.iconst 4, 1) := by decide +kernel
theorem dX10_addItem_130 : decode cX10_addItem 130 = .ok (.if_icmp .ne 26, 3) := by decide +kernel
theorem dX10_addItem_133 : decode cX10_addItem 133 = .ok (.aload_n 0, 1) := by decide +kernel
theorem dX10_addItem_134 : decode cX10_addItem 134 = .ok (.aload_n 2, 1) := by decide +kernel
theorem dX10_addItem_135 : decode cX10_addItem 135 = .ok (.iconst 0, 1) := by decide +kernel
theorem dX10_addItem_136 : decode cX10_addItem 136 = .ok (.iaload, 1) := by decide +kernel
theorem dX10_addItem_137 : decode cX10_addItem 137 = .ok (.aload_n 2, 1) := by decide +kernel
theorem dX10_addItem_138 : decode cX10_addItem 138 = .ok (.iconst 1, 1) := by decide +kernel
theorem dX10_addItem_139 : decode cX10_addItem 139 = .ok (.iaload, 1) := by decide +kernel
theorem dX10_addItem_140 : decode cX10_addItem 140 = .ok (.aload_n 2, 1) := by decide +kernel
theorem dX10_addItem_141 : decode cX10_addItem 141 = .ok (.iconst 2, 1) := by decide +kernel
theorem dX10_addItem_142 : decode cX10_addItem 142 = .ok (.iaload, 1) := by decide +kernel
theorem dX10_addItem_143 : decode cX10_addItem 143 = .ok (.aload_n 2, 1) := by decide +kernel
theorem dX10_addItem_144 : decode cX10_addItem 144 = .ok (.iconst 3, 1) := by decide +kernel
theorem dX10_addItem_145 : decode cX10_addItem 145 = .ok (.iaload, 1) := by decide +kernel
theorem dX10_addItem_146 : decode cX10_addItem 146 = .ok (.invokevirtual 78, 3) := by decide +kernel
theorem dX10_addItem_149 : decode cX10_addItem 149 = .ok (.ifCond .eq 7, 3) := by decide +kernel
theorem dX10_addItem_152 : decode cX10_addItem 152 = .ok (.iconst 1, 1) := by decide +kernel
theorem dX10_addItem_153 : decode cX10_addItem 153 = .ok (.goto 4, 3) := by decide +kernel
theorem dX10_addItem_156 : decode cX10_addItem 156 = .ok (.iconst 0, 1) := by decide +kernel
theorem dX10_addItem_157 : decode cX10_addItem 157 = .ok (.ireturn, 1) := by decide +kernel
theorem dX10_addItem_158 : decode cX10_addItem 158 = .ok (.iload_n 3, 1) := by decide +kernel
theorem dX10_addItem_159 : decode cX10_addItem 159 = .ok (.iconst 2, 1) := by decide +kernel
theorem dX10_addItem_160 : decode cX10_addItem 160 = .ok (.if_icmp .ne 20, 3) := by decide +kernel
theorem dX10_addItem_163 : decode cX10_addItem 163 = .ok (.aload_n 0, 1) := by decide +kernel
theorem dX10_addItem_164 : decode cX10_addItem 164 = .ok (.aload_n 2, 1) := by decide +kernel
theorem dX10_addItem_165 : decode cX10_addItem 165 = .ok (.iconst 0, 1) := by decide +kernel
theorem dX10_addItem_166 : decode cX10_addItem 166 = .ok (.iaload, 1) := by decide +kernel
theorem dX10_addItem_167 : decode cX10_addItem 167 = .ok (.aload_n 2, 1) := by decide +kernel
theorem dX10_addItem_168 : decode cX10_addItem 168 = .ok (.iconst 1, 1) := by decide +kernel
theorem dX10_addItem_169 : decode cX10_addItem 169 = .ok (.iaload, 1) := by decide +kernel
theorem dX10_addItem_170 : decode cX10_addItem 170 = .ok (.invokevirtual 82, 3) := by decide +kernel
theorem dX10_addItem_173 : decode cX10_addItem 173 = .ok (.ifCond .eq 7, 3) := by decide +kernel
theorem dX10_addItem_176 : decode cX10_addItem 176 = .ok (.iconst 1, 1) := by decide +kernel
theorem dX10_addItem_177 : decode cX10_addItem 177 = .ok (.goto 4, 3) := by decide +kernel
theorem dX10_addItem_180 : decode cX10_addItem 180 = .ok (.iconst 0, 1) := by decide +kernel
theorem dX10_addItem_181 : decode cX10_addItem 181 = .ok (.ireturn, 1) := by decide +kernel
theorem dX10_addItem_182 : decode cX10_addItem 182 = .ok (.iload_n 3, 1) := by decide +kernel
theorem dX10_addItem_183 : decode cX10_addItem 183 = .ok (.iconst 3, 1) := by decide +kernel
theorem dX10_addItem_184 : decode cX10_addItem 184 = .ok (.if_icmp .ne 23, 3) := by decide +kernel
theorem dX10_addItem_187 : decode cX10_addItem 187 = .ok (.aload_n 0, 1) := by decide +kernel
theorem dX10_addItem_188 : decode cX10_addItem 188 = .ok (.aload_n 2, 1) := by decide +kernel
theorem dX10_addItem_189 : decode cX10_addItem 189 = .ok (.iconst 0, 1) := by decide +kernel
theorem dX10_addItem_190 : decode cX10_addItem 190 = .ok (.iaload, 1) := by decide +kernel
theorem dX10_addItem_191 : decode cX10_addItem 191 = .ok (.aload_n 2, 1) := by decide +kernel
theorem dX10_addItem_192 : decode cX10_addItem 192 = .ok (.iconst 1, 1) := by decide +kernel
theorem dX10_addItem_193 : decode cX10_addItem 193 = .ok (.iaload, 1) := by decide +kernel
theorem dX10_addItem_194 : decode cX10_addItem 194 = .ok (.aload_n 2, 1) := by decide +kernel
theorem dX10_addItem_195 : decode cX10_addItem 195 = .ok (.iconst 2, 1) := by decide +kernel
theorem dX10_addItem_196 : decode cX10_addItem 196 = .ok (.iaload, 1) := by decide +kernel
theorem dX10_addItem_197 : decode cX10_addItem 197 = .ok (.invokevirtual 86, 3) := by decide +kernel
theorem dX10_addItem_200 : decode cX10_addItem 200 = .ok (.ifCond .eq 7, 3) := by decide +kernel
theorem dX10_addItem_203 : decode cX10_addItem 203 = .ok (.iconst 1, 1) := by decide +kernel
theorem dX10_addItem_204 : decode cX10_addItem 204 = .ok (.goto 4, 3) := by decide +kernel
theorem dX10_addItem_207 : decode cX10_addItem 207 = .ok (.iconst 0, 1) := by decide +kernel
theorem dX10_addItem_208 : decode cX10_addItem 208 = .ok (.ireturn, 1) := by decide +kernel
theorem dX10_addItem_209 : decode cX10_addItem 209 = .ok (.iconst 0, 1) := by decide +kernel
theorem dX10_addItem_210 : decode cX10_addItem 210 = .ok (.ireturn, 1) := by decide +kernel
theorem dX10_addPlaces_0 : decode cX10_addPlaces 0 = .ok (.aload_n 0, 1) := by decide +kernel
theorem dX10_addPlaces_1 : decode cX10_addPlaces 1 = .ok (.getfield 15, 3) := by decide +kernel
theorem dX10_addPlaces_4 : decode cX10_addPlaces 4 = .ok (.aload_n 0, 1) := by decide +kernel
theorem dX10_addPlaces_5 : decode cX10_addPlaces 5 = .ok (.getfield 28, 3) := by decide +kernel
theorem dX10_addPlaces_8 : decode cX10_addPlaces 8 = .ok (.iadd, 1) := by decide +kernel
theorem dX10_addPlaces_9 : decode cX10_addPlaces 9 = .ok (.aload_n 0, 1) := by decide +kernel
theorem dX10_addPlaces_10 : decode cX10_addPlaces 10 = .ok (.getfield 43, 3) := by decide +kernel
theorem dX10_addPlaces_13 : decode cX10_addPlaces 13 = .ok (.iadd, 1) := by decide +kernel
theorem dX10_addPlaces_14 : decode cX10_addPlaces 14 = .ok (.aload_n 0, 1) := by decide +kernel
theorem dX10_addPlaces_15 : decode cX10_addPlaces 15 = .ok (.getfield 52, 3) := by decide +kernel
theorem dX10_addPlaces_18 : decode cX10_addPlaces 18 = .ok (.iadd, 1) := by decide +kernel
theorem dX10_addPlaces_19 : decode cX10_addPlaces 19 = .ok (.ifCond .gt 13, 3) := by decide +kernel
theorem dX10_addPlaces_22 : decode cX10_addPlaces 22 = .ok (.iload_n 1, 1) := by decide +kernel
theorem dX10_addPlaces_23 : decode cX10_addPlaces 23 = .ok (.iconst 4, 1) := by decide +kernel
theorem dX10_addPlaces_24 : decode cX10_addPlaces 24 = .ok (.bipush 24, 2) := by decide +kernel
theorem dX10_addPlaces_26 : decode cX10_addPlaces 26 = .ok (.invokestatic 89, 3) := by decide +kernel
theorem dX10_addPlaces_29 : decode cX10_addPlaces 29 = .ok (.ifCond .ne 5, 3) := by decide +kernel
theorem dX10_addPlaces_32 : decode cX10_addPlaces 32 = .ok (.iconst 0, 1) := by decide +kernel
theorem dX10_addPlaces_33 : decode cX10_addPlaces 33 = .ok (.ireturn, 1) := by decide +kernel
theorem dX10_addPlaces_34 : decode cX10_addPlaces 34 = .ok (.aload_n 0, 1) := by decide +kernel
theorem dX10_addPlaces_35 : decode cX10_addPlaces 35 = .ok (.iload_n 1, 1) := by decide +kernel
theorem dX10_addPlaces_36 : decode cX10_addPlaces 36 = .ok (.putfield 9, 3) := by decide +kernel
theorem dX10_addPlaces_39 : decode cX10_addPlaces 39 = .ok (.iconst 1, 1) := by decide +kernel
theorem dX10_addPlaces_40 : decode cX10_addPlaces 40 = .ok (.ireturn, 1) := by decide +kernel
theorem dX10_addLevel_0 : decode cX10_addLevel 0 = .ok (.aload_n 0, 1) := by decide +kernel
theorem dX10_addLevel_1 : decode cX10_addLevel 1 = .ok (.getfield 15, 3) := by decide +kernel
theorem dX10_addLevel_4 : decode cX10_addLevel 4 = .ok (.bipush 8, 2) := by decide +kernel
theorem dX10_addLevel_6 : decode cX10_addLevel 6 = .ok (.if_icmp .lt 5, 3) := by decide +kernel
theorem dX10_addLevel_9 : decode cX10_addLevel 9 = .ok (.iconst 0, 1) := by decide +kernel
theorem dX10_addLevel_10 : decode cX10_addLevel 10 = .ok (.ireturn, 1) := by decide +kernel
theorem dX10_addLevel_11 : decode cX10_addLevel 11 = .ok (.iload_n 1, 1) := by decide +kernel
theorem dX10_addLevel_12 : decode cX10_addLevel 12 = .ok (.iconst 0, 1) := by decide +kernel
theorem dX10_addLevel_13 : decode cX10_addLevel 13 = .ok (.bipush 6, 2) := by decide +kernel
theorem dX10_addLevel_15 : decode cX10_addLevel 15 = .ok (.invokestatic 89, 3) := by decide +kernel
theorem dX10_addLevel_18 : decode cX10_addLevel 18 = .ok (.ifCond .eq 23, 3) := by decide +kernel
theorem dX10_addLevel_21 : decode cX10_addLevel 21 = .ok (.iload_n 2, 1) := by decide +kernel
theorem dX10_addLevel_22 : decode cX10_addLevel 22 = .ok (.iconst 0, 1) := by decide +kernel
theorem dX10_addLevel_23 : decode cX10_addLevel 23 = .ok (.bipush 9, 2) := by decide +kernel
theorem dX10_addLevel_25 : decode cX10_addLevel 25 = .ok (.invokestatic 89, 3) := by decide +kernel
theorem dX10_addLevel_28 : decode cX10_addLevel 28 = .ok (.ifCond .eq 13, 3) := by decide +kernel
theorem dX10_addLevel_31 : decode cX10_addLevel 31 = .ok (.iload_n 3, 1) := by decide +kernel
theorem dX10_addLevel_32 : decode cX10_addLevel 32 = .ok (.iconst 1, 1) := by decide +kernel
theorem dX10_addLevel_33 : decode cX10_addLevel 33 = .ok (.bipush 9, 2) := by decide +kernel
theorem dX10_addLevel_35 : decode cX10_addLevel 35 = .ok (.invokestatic 89, 3) := by decide +kernel
theorem dX10_addLevel_38 : decode cX10_addLevel 38 = .ok (.ifCond .ne 5, 3) := by decide +kernel
theorem dX10_addLevel_41 : decode cX10_addLevel 41 = .ok (.iconst 0, 1) := by decide +kernel
theorem dX10_addLevel_42 : decode cX10_addLevel 42 = .ok (.ireturn, 1) := by decide +kernel
theorem dX10_addLevel_43 : decode cX10_addLevel 43 = .ok (.aload_n 0, 1) := by decide +kernel
theorem dX10_addLevel_44 : decode cX10_addLevel 44 = .ok (.getfield 18, 3) := by decide +kernel
theorem dX10_addLevel_47 : decode cX10_addLevel 47 = .ok (.aload_n 0, 1) := by decide +kernel
theorem dX10_addLevel_48 : decode cX10_addLevel 48 = .ok (.getfield 15, 3) := by decide +kernel
theorem dX10_addLevel_51 : decode cX10_addLevel 51 = .ok (.iload_n 1, 1) := by decide +kernel
theorem dX10_addLevel_52 : decode cX10_addLevel 52 = .ok (.iastore, 1) := by decide +kernel
theorem dX10_addLevel_53 : decode cX10_addLevel 53 = .ok (.aload_n 0, 1) := by decide +kernel
theorem dX10_addLevel_54 : decode cX10_addLevel 54 = .ok (.getfield 22, 3) := by decide +kernel
theorem dX10_addLevel_57 : decode cX10_addLevel 57 = .ok (.aload_n 0, 1) := by decide +kernel
theorem dX10_addLevel_58 : decode cX10_addLevel 58 = .ok (.getfield 15, 3) := by decide +kernel
theorem dX10_addLevel_61 : decode cX10_addLevel 61 = .ok (.iload_n 2, 1) := by decide +kernel
theorem dX10_addLevel_62 : decode cX10_addLevel 62 = .ok (.iastore, 1) := by decide +kernel
theorem dX10_addLevel_63 : decode cX10_addLevel 63 = .ok (.aload_n 0, 1) := by decide +kernel
theorem dX10_addLevel_64 : decode cX10_addLevel 64 = .ok (.getfield 25, 3) := by decide +kernel
theorem dX10_addLevel_67 : decode cX10_addLevel 67 = .ok (.aload_n 0, 1) := by decide +kernel
theorem dX10_addLevel_68 : decode cX10_addLevel 68 = .ok (.getfield 15, 3) := by decide +kernel
theorem dX10_addLevel_71 : decode cX10_addLevel 71 = .ok (.iload_n 3, 1) := by decide +kernel
theorem dX10_addLevel_72 : decode cX10_addLevel 72 = .ok (.iastore, 1) := by decide +kernel
theorem dX10_addLevel_73 : decode cX10_addLevel 73 = .ok (.aload_n 0, 1) := by decide +kernel
theorem dX10_addLevel_74 : decode cX10_addLevel 74 = .ok (.dup, 1) := by decide +kernel
theorem dX10_addLevel_75 : decode cX10_addLevel 75 = .ok (.getfield 15, 3) := by decide +kernel
theorem dX10_addLevel_78 : decode cX10_addLevel 78 = .ok (.iconst 1, 1) := by decide +kernel
theorem dX10_addLevel_79 : decode cX10_addLevel 79 = .ok (.iadd, 1) := by decide +kernel
theorem dX10_addLevel_80 : decode cX10_addLevel 80 = .ok (.putfield 15, 3) := by decide +kernel
theorem dX10_addLevel_83 : decode cX10_addLevel 83 = .ok (.iconst 1, 1) := by decide +kernel
theorem dX10_addLevel_84 : decode cX10_addLevel 84 = .ok (.ireturn, 1) := by decide +kernel
theorem dX10_addTown_0 : decode cX10_addTown 0 = .ok (.aload_n 0, 1) := by decide +kernel
theorem dX10_addTown_1 : decode cX10_addTown 1 = .ok (.getfield 28, 3) := by decide +kernel
theorem dX10_addTown_4 : decode cX10_addTown 4 = .ok (.bipush 6, 2) := by decide +kernel
theorem dX10_addTown_6 : decode cX10_addTown 6 = .ok (.if_icmp .ge 12, 3) := by decide +kernel
theorem dX10_addTown_9 : decode cX10_addTown 9 = .ok (.aload_n 0, 1) := by decide +kernel
theorem dX10_addTown_10 : decode cX10_addTown 10 = .ok (.iload_n 2, 1) := by decide +kernel
theorem dX10_addTown_11 : decode cX10_addTown 11 = .ok (.iload_n 1, 1) := by decide +kernel
theorem dX10_addTown_12 : decode cX10_addTown 12 = .ok (.invokevirtual 92, 3) := by decide +kernel
theorem dX10_addTown_15 : decode cX10_addTown 15 = .ok (.ifCond .ne 5, 3) := by decide +kernel
theorem dX10_addTown_18 : decode cX10_addTown 18 = .ok (.iconst 0, 1) := by decide +kernel
theorem dX10_addTown_19 : decode cX10_addTown 19 = .ok (.ireturn, 1) := by decide +kernel
theorem dX10_addTown_20 : decode cX10_addTown 20 = .ok (.iload_n 3, 1) := by decide +kernel
theorem dX10_addTown_21 : decode cX10_addTown 21 = .ok (.iconst 0, 1) := by decide +kernel
theorem dX10_addTown_22 : decode cX10_addTown 22 = .ok (.bipush 20, 2) := by decide +kernel
theorem dX10_addTown_24 : decode cX10_addTown 24 = .ok (.invokestatic 89, 3) := by decide +kernel
theorem dX10_addTown_27 : decode cX10_addTown 27 = .ok (.ifCond .eq 14, 3) := by decide +kernel
theorem dX10_addTown_30 : decode cX10_addTown 30 = .ok (.iload 4, 2) := by decide +kernel
theorem dX10_addTown_32 : decode cX10_addTown 32 = .ok (.iconst 0, 1) := by decide +kernel
theorem dX10_addTown_33 : decode cX10_addTown 33 = .ok (.bipush 20, 2) := by decide +kernel
theorem dX10_addTown_35 : decode cX10_addTown 35 = .ok (.invokestatic 89, 3) := by decide +kernel
theorem dX10_addTown_38 : decode cX10_addTown 38 = .ok (.ifCond .ne 5, 3) := by decide +kernel
theorem dX10_addTown_41 : decode cX10_addTown 41 = .ok (.iconst 0, 1) := by decide +kernel
theorem dX10_addTown_42 : decode cX10_addTown 42 = .ok (.ireturn, 1) := by decide +kernel
theorem dX10_addTown_43 : decode cX10_addTown 43 = .ok (.aload_n 0, 1) := by decide +kernel
theorem dX10_addTown_44 : decode cX10_addTown 44 = .ok (.getfield 31, 3) := by decide +kernel
theorem dX10_addTown_47 : decode cX10_addTown 47 = .ok (.aload_n 0, 1) := by decide +kernel
theorem dX10_addTown_48 : decode cX10_addTown 48 = .ok (.getfield 28, 3) := by decide +kernel
theorem dX10_addTown_51 : decode cX10_addTown 51 = .ok (.iload_n 2, 1) := by decide +kernel
theorem dX10_addTown_52 : decode cX10_addTown 52 = .ok (.iastore, 1) := by decide +kernel
theorem dX10_addTown_53 : decode cX10_addTown 53 = .ok (.aload_n 0, 1) := by decide +kernel
theorem dX10_addTown_54 : decode cX10_addTown 54 = .ok (.getfield 34, 3) := by decide +kernel
theorem dX10_addTown_57 : decode cX10_addTown 57 = .ok (.aload_n 0, 1) := by decide +kernel
theorem dX10_addTown_58 : decode cX10_addTown 58 = .ok (.getfield 28, 3) := by decide +kernel
theorem dX10_addTown_61 : decode cX10_addTown 61 = .ok (.iload_n 1, 1) := by decide +kernel
theorem dX10_addTown_62 : decode cX10_addTown 62 = .ok (.iastore, 1) := by decide +kernel
theorem dX10_addTown_63 : decode cX10_addTown 63 = .ok (.aload_n 0, 1) := by decide +kernel
theorem dX10_addTown_64 : decode cX10_addTown 64 = .ok (.getfield 37, 3) := by decide +kernel
theorem dX10_addTown_67 : decode cX10_addTown 67 = .ok (.aload_n 0, 1) := by decide +kernel
theorem dX10_addTown_68 : decode cX10_addTown 68 = .ok (.getfield 28, 3) := by decide +kernel
theorem dX10_addTown_71 : decode cX10_addTown 71 = .ok (.iload_n 3, 1) := by decide +kernel
theorem dX10_addTown_72 : decode cX10_addTown 72 = .ok (.iastore, 1) := by decide +kernel
theorem dX10_addTown_73 : decode cX10_addTown 73 = .ok (.aload_n 0, 1) := by decide +kernel
theorem dX10_addTown_74 : decode cX10_addTown 74 = .ok (.getfield 40, 3) := by decide +kernel
theorem dX10_addTown_77 : decode cX10_addTown 77 = .ok (.aload_n 0, 1) := by decide +kernel
theorem dX10_addTown_78 : decode cX10_addTown 78 = .ok (.getfield 28, 3) := by decide +kernel
theorem dX10_addTown_81 : decode cX10_addTown 81 = .ok (.iload 4, 2) := by decide +kernel
theorem dX10_addTown_83 : decode cX10_addTown 83 = .ok (.iastore, 1) := by decide +kernel
theorem dX10_addTown_84 : decode cX10_addTown 84 = .ok (.aload_n 0, 1) := by decide +kernel
theorem dX10_addTown_85 : decode cX10_addTown 85 = .ok (.dup, 1) := by decide +kernel
theorem dX10_addTown_86 : decode cX10_addTown 86 = .ok (.getfield 28, 3) := by decide +kernel
theorem dX10_addTown_89 : decode cX10_addTown 89 = .ok (.iconst 1, 1) := by decide +kernel
theorem dX10_addTown_90 : decode cX10_addTown 90 = .ok (.iadd, 1) := by decide +kernel
theorem dX10_addTown_91 : decode cX10_addTown 91 = .ok (.putfield 28, 3) := by decide +kernel
theorem dX10_addTown_94 : decode cX10_addTown 94 = .ok (.iconst 1, 1) := by decide +kernel
theorem dX10_addTown_95 : decode cX10_addTown 95 = .ok (.ireturn, 1) := by decide +kernel
theorem dX10_addMarket_0 : decode cX10_addMarket 0 = .ok (.aload_n 0, 1) := by decide +kernel
theorem dX10_addMarket_1 : decode cX10_addMarket 1 = .ok (.getfield 43, 3) := by decide +kernel
theorem dX10_addMarket_4 : decode cX10_addMarket 4 = .ok (.bipush 8, 2) := by decide +kernel
theorem dX10_addMarket_6 : decode cX10_addMarket 6 = .ok (.if_icmp .ge 12, 3) := by decide +kernel
theorem dX10_addMarket_9 : decode cX10_addMarket 9 = .ok (.aload_n 0, 1) := by decide +kernel
theorem dX10_addMarket_10 : decode cX10_addMarket 10 = .ok (.iload_n 1, 1) := by decide +kernel
theorem dX10_addMarket_11 : decode cX10_addMarket 11 = .ok (.iload_n 2, 1) := by decide +kernel
theorem dX10_addMarket_12 : decode cX10_addMarket 12 = .ok (.invokevirtual 92, 3) := by decide +kernel
theorem dX10_addMarket_15 : decode cX10_addMarket 15 = .ok (.ifCond .ne 5, 3) := by decide +kernel
theorem dX10_addMarket_18 : decode cX10_addMarket 18 = .ok (.iconst 0, 1) := by decide +kernel
theorem dX10_addMarket_19 : decode cX10_addMarket 19 = .ok (.ireturn, 1) := by decide +kernel
theorem dX10_addMarket_20 : decode cX10_addMarket 20 = .ok (.aload_n 0, 1) := by decide +kernel
theorem dX10_addMarket_21 : decode cX10_addMarket 21 = .ok (.getfield 46, 3) := by decide +kernel
theorem dX10_addMarket_24 : decode cX10_addMarket 24 = .ok (.aload_n 0, 1) := by decide +kernel
theorem dX10_addMarket_25 : decode cX10_addMarket 25 = .ok (.getfield 43, 3) := by decide +kernel
theorem dX10_addMarket_28 : decode cX10_addMarket 28 = .ok (.iload_n 1, 1) := by decide +kernel
theorem dX10_addMarket_29 : decode cX10_addMarket 29 = .ok (.iastore, 1) := by decide +kernel
theorem dX10_addMarket_30 : decode cX10_addMarket 30 = .ok (.aload_n 0, 1) := by decide +kernel
theorem dX10_addMarket_31 : decode cX10_addMarket 31 = .ok (.getfield 49, 3) := by decide +kernel
theorem dX10_addMarket_34 : decode cX10_addMarket 34 = .ok (.aload_n 0, 1) := by decide +kernel
theorem dX10_addMarket_35 : decode cX10_addMarket 35 = .ok (.getfield 43, 3) := by decide +kernel
theorem dX10_addMarket_38 : decode cX10_addMarket 38 = .ok (.iload_n 2, 1) := by decide +kernel
theorem dX10_addMarket_39 : decode cX10_addMarket 39 = .ok (.iastore, 1) := by decide +kernel
theorem dX10_addMarket_40 : decode cX10_addMarket 40 = .ok (.aload_n 0, 1) := by decide +kernel
theorem dX10_addMarket_41 : decode cX10_addMarket 41 = .ok (.dup, 1) := by decide +kernel
theorem dX10_addMarket_42 : decode cX10_addMarket 42 = .ok (.getfield 43, 3) := by decide +kernel
theorem dX10_addMarket_45 : decode cX10_addMarket 45 = .ok (.iconst 1, 1) := by decide +kernel
theorem dX10_addMarket_46 : decode cX10_addMarket 46 = .ok (.iadd, 1) := by decide +kernel
theorem dX10_addMarket_47 : decode cX10_addMarket 47 = .ok (.putfield 43, 3) := by decide +kernel
theorem dX10_addMarket_50 : decode cX10_addMarket 50 = .ok (.iconst 1, 1) := by decide +kernel
theorem dX10_addMarket_51 : decode cX10_addMarket 51 = .ok (.ireturn, 1) := by decide +kernel
theorem dX10_addThing_0 : decode cX10_addThing 0 = .ok (.aload_n 0, 1) := by decide +kernel
theorem dX10_addThing_1 : decode cX10_addThing 1 = .ok (.getfield 52, 3) := by decide +kernel
theorem dX10_addThing_4 : decode cX10_addThing 4 = .ok (.iconst 5, 1) := by decide +kernel
theorem dX10_addThing_5 : decode cX10_addThing 5 = .ok (.if_icmp .ge 22, 3) := by decide +kernel
theorem dX10_addThing_8 : decode cX10_addThing 8 = .ok (.aload_n 0, 1) := by decide +kernel
theorem dX10_addThing_9 : decode cX10_addThing 9 = .ok (.iload_n 1, 1) := by decide +kernel
theorem dX10_addThing_10 : decode cX10_addThing 10 = .ok (.iload_n 2, 1) := by decide +kernel
theorem dX10_addThing_11 : decode cX10_addThing 11 = .ok (.invokevirtual 92, 3) := by decide +kernel
theorem dX10_addThing_14 : decode cX10_addThing 14 = .ok (.ifCond .eq 13, 3) := by decide +kernel
theorem dX10_addThing_17 : decode cX10_addThing 17 = .ok (.iload_n 3, 1) := by decide +kernel
theorem dX10_addThing_18 : decode cX10_addThing 18 = .ok (.iconst 0, 1) := by decide +kernel
theorem dX10_addThing_19 : decode cX10_addThing 19 = .ok (.bipush 9, 2) := by decide +kernel
theorem dX10_addThing_21 : decode cX10_addThing 21 = .ok (.invokestatic 89, 3) := by decide +kernel
theorem dX10_addThing_24 : decode cX10_addThing 24 = .ok (.ifCond .ne 5, 3) := by decide +kernel
theorem dX10_addThing_27 : decode cX10_addThing 27 = .ok (.iconst 0, 1) := by decide +kernel
theorem dX10_addThing_28 : decode cX10_addThing 28 = .ok (.ireturn, 1) := by decide +kernel
theorem dX10_addThing_29 : decode cX10_addThing 29 = .ok (.aload_n 0, 1) := by decide +kernel
theorem dX10_addThing_30 : decode cX10_addThing 30 = .ok (.getfield 55, 3) := by decide +kernel
theorem dX10_addThing_33 : decode cX10_addThing 33 = .ok (.aload_n 0, 1) := by decide +kernel
theorem dX10_addThing_34 : decode cX10_addThing 34 = .ok (.getfield 52, 3) := by decide +kernel
theorem dX10_addThing_37 : decode cX10_addThing 37 = .ok (.iload_n 1, 1) := by decide +kernel
theorem dX10_addThing_38 : decode cX10_addThing 38 = .ok (.iastore, 1) := by decide +kernel
theorem dX10_addThing_39 : decode cX10_addThing 39 = .ok (.aload_n 0, 1) := by decide +kernel
theorem dX10_addThing_40 : decode cX10_addThing 40 = .ok (.getfield 58, 3) := by decide +kernel
theorem dX10_addThing_43 : decode cX10_addThing 43 = .ok (.aload_n 0, 1) := by decide +kernel
theorem dX10_addThing_44 : decode cX10_addThing 44 = .ok (.getfield 52, 3) := by decide +kernel
theorem dX10_addThing_47 : decode cX10_addThing 47 = .ok (.iload_n 2, 1) := by decide +kernel
theorem dX10_addThing_48 : decode cX10_addThing 48 = .ok (.iastore, 1) := by decide +kernel
theorem dX10_addThing_49 : decode cX10_addThing 49 = .ok (.aload_n 0, 1) := by decide +kernel
theorem dX10_addThing_50 : decode cX10_addThing 50 = .ok (.getfield 61, 3) := by decide +kernel
theorem dX10_addThing_53 : decode cX10_addThing 53 = .ok (.aload_n 0, 1) := by decide +kernel
theorem dX10_addThing_54 : decode cX10_addThing 54 = .ok (.getfield 52, 3) := by decide +kernel
theorem dX10_addThing_57 : decode cX10_addThing 57 = .ok (.iload_n 3, 1) := by decide +kernel
theorem dX10_addThing_58 : decode cX10_addThing 58 = .ok (.iastore, 1) := by decide +kernel
theorem dX10_addThing_59 : decode cX10_addThing 59 = .ok (.aload_n 0, 1) := by decide +kernel
theorem dX10_addThing_60 : decode cX10_addThing 60 = .ok (.dup, 1) := by decide +kernel
theorem dX10_addThing_61 : decode cX10_addThing 61 = .ok (.getfield 52, 3) := by decide +kernel
theorem dX10_addThing_64 : decode cX10_addThing 64 = .ok (.iconst 1, 1) := by decide +kernel
theorem dX10_addThing_65 : decode cX10_addThing 65 = .ok (.iadd, 1) := by decide +kernel
theorem dX10_addThing_66 : decode cX10_addThing 66 = .ok (.putfield 52, 3) := by decide +kernel
theorem dX10_addThing_69 : decode cX10_addThing 69 = .ok (.iconst 1, 1) := by decide +kernel
theorem dX10_addThing_70 : decode cX10_addThing 70 = .ok (.ireturn, 1) := by decide +kernel
theorem dX10_canBeSpot_0 : decode cX10_canBeSpot 0 = .ok (.iload_n 1, 1) := by decide +kernel
theorem dX10_canBeSpot_1 : decode cX10_canBeSpot 1 = .ok (.iconst 0, 1) := by decide +kernel
theorem dX10_canBeSpot_2 : decode cX10_canBeSpot 2 = .ok (.bipush 7, 2) := by decide +kernel
theorem dX10_canBeSpot_4 : decode cX10_canBeSpot 4 = .ok (.invokestatic 89, 3) := by decide +kernel
theorem dX10_canBeSpot_7 : decode cX10_canBeSpot 7 = .ok (.ifCond .eq 21, 3) := by decide +kernel
theorem dX10_canBeSpot_10 : decode cX10_canBeSpot 10 = .ok (.iload_n 2, 1) := by decide +kernel
theorem dX10_canBeSpot_11 : decode cX10_canBeSpot 11 = .ok (.iconst 0, 1) := by decide +kernel
theorem dX10_canBeSpot_12 : decode cX10_canBeSpot 12 = .ok (.aload_n 0, 1) := by decide +kernel
theorem dX10_canBeSpot_13 : decode cX10_canBeSpot 13 = .ok (.getfield 9, 3) := by decide +kernel
theorem dX10_canBeSpot_16 : decode cX10_canBeSpot 16 = .ok (.iconst 1, 1) := by decide +kernel
theorem dX10_canBeSpot_17 : decode cX10_canBeSpot 17 = .ok (.isub, 1) := by decide +kernel
theorem dX10_canBeSpot_18 : decode cX10_canBeSpot 18 = .ok (.invokestatic 89, 3) := by decide +kernel
theorem dX10_canBeSpot_21 : decode cX10_canBeSpot 21 = .ok (.ifCond .eq 7, 3) := by decide +kernel
theorem dX10_canBeSpot_24 : decode cX10_canBeSpot 24 = .ok (.iconst 1, 1) := by decide +kernel
theorem dX10_canBeSpot_25 : decode cX10_canBeSpot 25 = .ok (.goto 4, 3) := by decide +kernel
theorem dX10_canBeSpot_28 : decode cX10_canBeSpot 28 = .ok (.iconst 0, 1) := by decide +kernel
theorem dX10_canBeSpot_29 : decode cX10_canBeSpot 29 = .ok (.ireturn, 1) := by decide +kernel
theorem dX10_holds_0 : decode cX10_holds 0 = .ok (.aload_n 0, 1) := by decide +kernel
theorem dX10_holds_1 : decode cX10_holds 1 = .ok (.getfield 15, 3) := by decide +kernel
theorem dX10_holds_4 : decode cX10_holds 4 = .ok (.ifCond .le 21, 3) := by decide +kernel
theorem dX10_holds_7 : decode cX10_holds 7 = .ok (.aload_n 0, 1) := by decide +kernel
theorem dX10_holds_8 : decode cX10_holds 8 = .ok (.invokevirtual 95, 3) := by decide +kernel
theorem dX10_holds_11 : decode cX10_holds 11 = .ok (.ifCond .eq 14, 3) := by decide +kernel
theorem dX10_holds_14 : decode cX10_holds 14 = .ok (.aload_n 0, 1) := by decide +kernel
theorem dX10_holds_15 : decode cX10_holds 15 = .ok (.invokevirtual 99, 3) := by decide +kernel
theorem dX10_holds_18 : decode cX10_holds 18 = .ok (.ifCond .eq 7, 3) := by decide +kernel
theorem dX10_holds_21 : decode cX10_holds 21 = .ok (.iconst 1, 1) := by decide +kernel
theorem dX10_holds_22 : decode cX10_holds 22 = .ok (.goto 4, 3) := by decide +kernel
theorem dX10_holds_25 : decode cX10_holds 25 = .ok (.iconst 0, 1) := by decide +kernel
theorem dX10_holds_26 : decode cX10_holds 26 = .ok (.ireturn, 1) := by decide +kernel
theorem dX10_allLevelsThere_0 : decode cX10_allLevelsThere 0 = .ok (.iconst 0, 1) := by decide +kernel
theorem dX10_allLevelsThere_1 : decode cX10_allLevelsThere 1 = .ok (.istore_n 1, 1) := by decide +kernel
theorem dX10_allLevelsThere_2 : decode cX10_allLevelsThere 2 = .ok (.iload_n 1, 1) := by decide +kernel
theorem dX10_allLevelsThere_3 : decode cX10_allLevelsThere 3 = .ok (.aload_n 0, 1) := by decide +kernel
theorem dX10_allLevelsThere_4 : decode cX10_allLevelsThere 4 = .ok (.getfield 28, 3) := by decide +kernel
theorem dX10_allLevelsThere_7 : decode cX10_allLevelsThere 7 = .ok (.if_icmp .ge 24, 3) := by decide +kernel
theorem dX10_allLevelsThere_10 : decode cX10_allLevelsThere 10 = .ok (.aload_n 0, 1) := by decide +kernel
theorem dX10_allLevelsThere_11 : decode cX10_allLevelsThere 11 = .ok (.getfield 31, 3) := by decide +kernel
theorem dX10_allLevelsThere_14 : decode cX10_allLevelsThere 14 = .ok (.iload_n 1, 1) := by decide +kernel
theorem dX10_allLevelsThere_15 : decode cX10_allLevelsThere 15 = .ok (.iaload, 1) := by decide +kernel
theorem dX10_allLevelsThere_16 : decode cX10_allLevelsThere 16 = .ok (.aload_n 0, 1) := by decide +kernel
theorem dX10_allLevelsThere_17 : decode cX10_allLevelsThere 17 = .ok (.getfield 15, 3) := by decide +kernel
theorem dX10_allLevelsThere_20 : decode cX10_allLevelsThere 20 = .ok (.if_icmp .lt 5, 3) := by decide +kernel
theorem dX10_allLevelsThere_23 : decode cX10_allLevelsThere 23 = .ok (.iconst 0, 1) := by decide +kernel
theorem dX10_allLevelsThere_24 : decode cX10_allLevelsThere 24 = .ok (.ireturn, 1) := by decide +kernel
theorem dX10_allLevelsThere_25 : decode cX10_allLevelsThere 25 = .ok (.iinc 1 1, 3) := by decide +kernel
theorem dX10_allLevelsThere_28 : decode cX10_allLevelsThere 28 = .ok (.goto (-26), 3) := by decide +kernel
theorem dX10_allLevelsThere_31 : decode cX10_allLevelsThere 31 = .ok (.iconst 0, 1) := by decide +kernel
theorem dX10_allLevelsThere_32 : decode cX10_allLevelsThere 32 = .ok (.istore_n 1, 1) := by decide +kernel
theorem dX10_allLevelsThere_33 : decode cX10_allLevelsThere 33 = .ok (.iload_n 1, 1) := by decide +kernel
theorem dX10_allLevelsThere_34 : decode cX10_allLevelsThere 34 = .ok (.aload_n 0, 1) := by decide +kernel
theorem dX10_allLevelsThere_35 : decode cX10_allLevelsThere 35 = .ok (.getfield 43, 3) := by decide +kernel
theorem dX10_allLevelsThere_38 : decode cX10_allLevelsThere 38 = .ok (.if_icmp .ge 24, 3) := by decide +kernel
theorem dX10_allLevelsThere_41 : decode cX10_allLevelsThere 41 = .ok (.aload_n 0, 1) := by decide +kernel
theorem dX10_allLevelsThere_42 : decode cX10_allLevelsThere 42 = .ok (.getfield 46, 3) := by decide +kernel
theorem dX10_allLevelsThere_45 : decode cX10_allLevelsThere 45 = .ok (.iload_n 1, 1) := by decide +kernel
theorem dX10_allLevelsThere_46 : decode cX10_allLevelsThere 46 = .ok (.iaload, 1) := by decide +kernel
theorem dX10_allLevelsThere_47 : decode cX10_allLevelsThere 47 = .ok (.aload_n 0, 1) := by decide +kernel
theorem dX10_allLevelsThere_48 : decode cX10_allLevelsThere 48 = .ok (.getfield 15, 3) := by decide +kernel
theorem dX10_allLevelsThere_51 : decode cX10_allLevelsThere 51 = .ok (.if_icmp .lt 5, 3) := by decide +kernel
theorem dX10_allLevelsThere_54 : decode cX10_allLevelsThere 54 = .ok (.iconst 0, 1) := by decide +kernel
theorem dX10_allLevelsThere_55 : decode cX10_allLevelsThere 55 = .ok (.ireturn, 1) := by decide +kernel
theorem dX10_allLevelsThere_56 : decode cX10_allLevelsThere 56 = .ok (.iinc 1 1, 3) := by decide +kernel
theorem dX10_allLevelsThere_59 : decode cX10_allLevelsThere 59 = .ok (.goto (-26), 3) := by decide +kernel
theorem dX10_allLevelsThere_62 : decode cX10_allLevelsThere 62 = .ok (.iconst 0, 1) := by decide +kernel
theorem dX10_allLevelsThere_63 : decode cX10_allLevelsThere 63 = .ok (.istore_n 1, 1) := by decide +kernel
theorem dX10_allLevelsThere_64 : decode cX10_allLevelsThere 64 = .ok (.iload_n 1, 1) := by decide +kernel
theorem dX10_allLevelsThere_65 : decode cX10_allLevelsThere 65 = .ok (.aload_n 0, 1) := by decide +kernel
theorem dX10_allLevelsThere_66 : decode cX10_allLevelsThere 66 = .ok (.getfield 52, 3) := by decide +kernel
theorem dX10_allLevelsThere_69 : decode cX10_allLevelsThere 69 = .ok (.if_icmp .ge 24, 3) := by decide +kernel
theorem dX10_allLevelsThere_72 : decode cX10_allLevelsThere 72 = .ok (.aload_n 0, 1) := by decide +kernel
theorem dX10_allLevelsThere_73 : decode cX10_allLevelsThere 73 = .ok (.getfield 55, 3) := by decide +kernel
theorem dX10_allLevelsThere_76 : decode cX10_allLevelsThere 76 = .ok (.iload_n 1, 1) := by decide +kernel
theorem dX10_allLevelsThere_77 : decode cX10_allLevelsThere 77 = .ok (.iaload, 1) := by decide +kernel
theorem dX10_allLevelsThere_78 : decode cX10_allLevelsThere 78 = .ok (.aload_n 0, 1) := by decide +kernel
theorem dX10_allLevelsThere_79 : decode cX10_allLevelsThere 79 = .ok (.getfield 15, 3) := by decide +kernel
theorem dX10_allLevelsThere_82 : decode cX10_allLevelsThere 82 = .ok (.if_icmp .lt 5, 3) := by decide +kernel
theorem dX10_allLevelsThere_85 : decode cX10_allLevelsThere 85 = .ok (.iconst 0, 1) := by decide +kernel
theorem dX10_allLevelsThere_86 : decode cX10_allLevelsThere 86 = .ok (.ireturn, 1) := by decide +kernel
theorem dX10_allLevelsThere_87 : decode cX10_allLevelsThere 87 = .ok (.iinc 1 1, 3) := by decide +kernel
theorem dX10_allLevelsThere_90 : decode cX10_allLevelsThere 90 = .ok (.goto (-26), 3) := by decide +kernel
theorem dX10_allLevelsThere_93 : decode cX10_allLevelsThere 93 = .ok (.iconst 1, 1) := by decide +kernel
theorem dX10_allLevelsThere_94 : decode cX10_allLevelsThere 94 = .ok (.ireturn, 1) := by decide +kernel
theorem dX10_townsApart_0 : decode cX10_townsApart 0 = .ok (.iconst 0, 1) := by decide +kernel
theorem dX10_townsApart_1 : decode cX10_townsApart 1 = .ok (.istore_n 1, 1) := by decide +kernel
theorem dX10_townsApart_2 : decode cX10_townsApart 2 = .ok (.iload_n 1, 1) := by decide +kernel
theorem dX10_townsApart_3 : decode cX10_townsApart 3 = .ok (.aload_n 0, 1) := by decide +kernel
theorem dX10_townsApart_4 : decode cX10_townsApart 4 = .ok (.getfield 28, 3) := by decide +kernel
theorem dX10_townsApart_7 : decode cX10_townsApart 7 = .ok (.if_icmp .ge 102, 3) := by decide +kernel
theorem dX10_townsApart_10 : decode cX10_townsApart 10 = .ok (.iconst 0, 1) := by decide +kernel
theorem dX10_townsApart_11 : decode cX10_townsApart 11 = .ok (.istore_n 2, 1) := by decide +kernel
theorem dX10_townsApart_12 : decode cX10_townsApart 12 = .ok (.iload_n 2, 1) := by decide +kernel
theorem dX10_townsApart_13 : decode cX10_townsApart 13 = .ok (.iload_n 1, 1) := by decide +kernel
theorem dX10_townsApart_14 : decode cX10_townsApart 14 = .ok (.if_icmp .ge 41, 3) := by decide +kernel
theorem dX10_townsApart_17 : decode cX10_townsApart 17 = .ok (.aload_n 0, 1) := by decide +kernel
theorem dX10_townsApart_18 : decode cX10_townsApart 18 = .ok (.getfield 31, 3) := by decide +kernel
theorem dX10_townsApart_21 : decode cX10_townsApart 21 = .ok (.iload_n 1, 1) := by decide +kernel
theorem dX10_townsApart_22 : decode cX10_townsApart 22 = .ok (.iaload, 1) := by decide +kernel
theorem dX10_townsApart_23 : decode cX10_townsApart 23 = .ok (.aload_n 0, 1) := by decide +kernel
theorem dX10_townsApart_24 : decode cX10_townsApart 24 = .ok (.getfield 31, 3) := by decide +kernel
theorem dX10_townsApart_27 : decode cX10_townsApart 27 = .ok (.iload_n 2, 1) := by decide +kernel
theorem dX10_townsApart_28 : decode cX10_townsApart 28 = .ok (.iaload, 1) := by decide +kernel
theorem dX10_townsApart_29 : decode cX10_townsApart 29 = .ok (.if_icmp .ne 20, 3) := by decide +kernel
theorem dX10_townsApart_32 : decode cX10_townsApart 32 = .ok (.aload_n 0, 1) := by decide +kernel
theorem dX10_townsApart_33 : decode cX10_townsApart 33 = .ok (.getfield 34, 3) := by decide +kernel
theorem dX10_townsApart_36 : decode cX10_townsApart 36 = .ok (.iload_n 1, 1) := by decide +kernel
theorem dX10_townsApart_37 : decode cX10_townsApart 37 = .ok (.iaload, 1) := by decide +kernel
theorem dX10_townsApart_38 : decode cX10_townsApart 38 = .ok (.aload_n 0, 1) := by decide +kernel
theorem dX10_townsApart_39 : decode cX10_townsApart 39 = .ok (.getfield 34, 3) := by decide +kernel
theorem dX10_townsApart_42 : decode cX10_townsApart 42 = .ok (.iload_n 2, 1) := by decide +kernel
theorem dX10_townsApart_43 : decode cX10_townsApart 43 = .ok (.iaload, 1) := by decide +kernel
theorem dX10_townsApart_44 : decode cX10_townsApart 44 = .ok (.if_icmp .ne 5, 3) := by decide +kernel
theorem dX10_townsApart_47 : decode cX10_townsApart 47 = .ok (.iconst 0, 1) := by decide +kernel
theorem dX10_townsApart_48 : decode cX10_townsApart 48 = .ok (.ireturn, 1) := by decide +kernel
theorem dX10_townsApart_49 : decode cX10_townsApart 49 = .ok (.iinc 2 1, 3) := by decide +kernel
theorem dX10_townsApart_52 : decode cX10_townsApart 52 = .ok (.goto (-40), 3) := by decide +kernel
theorem dX10_townsApart_55 : decode cX10_townsApart 55 = .ok (.iconst 0, 1) := by decide +kernel
theorem dX10_townsApart_56 : decode cX10_townsApart 56 = .ok (.istore_n 2, 1) := by decide +kernel
theorem dX10_townsApart_57 : decode cX10_townsApart 57 = .ok (.iload_n 2, 1) := by decide +kernel
theorem dX10_townsApart_58 : decode cX10_townsApart 58 = .ok (.aload_n 0, 1) := by decide +kernel
theorem dX10_townsApart_59 : decode cX10_townsApart 59 = .ok (.getfield 43, 3) := by decide +kernel
theorem dX10_townsApart_62 : decode cX10_townsApart 62 = .ok (.if_icmp .ge 41, 3) := by decide +kernel
theorem dX10_townsApart_65 : decode cX10_townsApart 65 = .ok (.aload_n 0, 1) := by decide +kernel
theorem dX10_townsApart_66 : decode cX10_townsApart 66 = .ok (.getfield 31, 3) := by decide +kernel
theorem dX10_townsApart_69 : decode cX10_townsApart 69 = .ok (.iload_n 1, 1) := by decide +kernel
theorem dX10_townsApart_70 : decode cX10_townsApart 70 = .ok (.iaload, 1) := by decide +kernel
theorem dX10_townsApart_71 : decode cX10_townsApart 71 = .ok (.aload_n 0, 1) := by decide +kernel
theorem dX10_townsApart_72 : decode cX10_townsApart 72 = .ok (.getfield 46, 3) := by decide +kernel
theorem dX10_townsApart_75 : decode cX10_townsApart 75 = .ok (.iload_n 2, 1) := by decide +kernel
theorem dX10_townsApart_76 : decode cX10_townsApart 76 = .ok (.iaload, 1) := by decide +kernel
theorem dX10_townsApart_77 : decode cX10_townsApart 77 = .ok (.if_icmp .ne 20, 3) := by decide +kernel
theorem dX10_townsApart_80 : decode cX10_townsApart 80 = .ok (.aload_n 0, 1) := by decide +kernel
theorem dX10_townsApart_81 : decode cX10_townsApart 81 = .ok (.getfield 34, 3) := by decide +kernel
theorem dX10_townsApart_84 : decode cX10_townsApart 84 = .ok (.iload_n 1, 1) := by decide +kernel
theorem dX10_townsApart_85 : decode cX10_townsApart 85 = .ok (.iaload, 1) := by decide +kernel
theorem dX10_townsApart_86 : decode cX10_townsApart 86 = .ok (.aload_n 0, 1) := by decide +kernel
theorem dX10_townsApart_87 : decode cX10_townsApart 87 = .ok (.getfield 49, 3) := by decide +kernel
theorem dX10_townsApart_90 : decode cX10_townsApart 90 = .ok (.iload_n 2, 1) := by decide +kernel
theorem dX10_townsApart_91 : decode cX10_townsApart 91 = .ok (.iaload, 1) := by decide +kernel
theorem dX10_townsApart_92 : decode cX10_townsApart 92 = .ok (.if_icmp .ne 5, 3) := by decide +kernel
theorem dX10_townsApart_95 : decode cX10_townsApart 95 = .ok (.iconst 0, 1) := by decide +kernel
theorem dX10_townsApart_96 : decode cX10_townsApart 96 = .ok (.ireturn, 1) := by decide +kernel
theorem dX10_townsApart_97 : decode cX10_townsApart 97 = .ok (.iinc 2 1, 3) := by decide +kernel
theorem dX10_townsApart_100 : decode cX10_townsApart 100 = .ok (.goto (-43), 3) := by decide +kernel
theorem dX10_townsApart_103 : decode cX10_townsApart 103 = .ok (.iinc 1 1, 3) := by decide +kernel
theorem dX10_townsApart_106 : decode cX10_townsApart 106 = .ok (.goto (-104), 3) := by decide +kernel
theorem dX10_townsApart_109 : decode cX10_townsApart 109 = .ok (.iconst 1, 1) := by decide +kernel
theorem dX10_townsApart_110 : decode cX10_townsApart 110 = .ok (.ireturn, 1) := by decide +kernel
theorem dX11_init_0 : decode cX11_init 0 = .ok (.aload_n 0, 1) := by decide +kernel
theorem dX11_init_1 : decode cX11_init 1 = .ok (.invokespecial 3, 3) := by decide +kernel
theorem dX11_init_4 : decode cX11_init 4 = .ok (.aload_n 0, 1) := by decide +kernel
theorem dX11_init_5 : decode cX11_init 5 = .ok (.new 9, 3) := by decide +kernel
theorem dX11_init_8 : decode cX11_init 8 = .ok (.dup, 1) := by decide +kernel
theorem dX11_init_9 : decode cX11_init 9 = .ok (.invokespecial 11, 3) := by decide +kernel
theorem dX11_init_12 : decode cX11_init 12 = .ok (.putfield 12, 3) := by decide +kernel
theorem dX11_init_15 : decode cX11_init 15 = .ok (.aload_n 0, 1) := by decide +kernel
theorem dX11_init_16 : decode cX11_init 16 = .ok (.new 16, 3) := by decide +kernel
theorem dX11_init_19 : decode cX11_init 19 = .ok (.dup, 1) := by decide +kernel
theorem dX11_init_20 : decode cX11_init 20 = .ok (.invokespecial 18, 3) := by decide +kernel
theorem dX11_init_23 : decode cX11_init 23 = .ok (.putfield 19, 3) := by decide +kernel
theorem dX11_init_26 : decode cX11_init 26 = .ok (.aload_n 0, 1) := by decide +kernel
theorem dX11_init_27 : decode cX11_init 27 = .ok (.new 23, 3) := by decide +kernel
theorem dX11_init_30 : decode cX11_init 30 = .ok (.dup, 1) := by decide +kernel
theorem dX11_init_31 : decode cX11_init 31 = .ok (.bipush 8, 2) := by decide +kernel
theorem dX11_init_33 : decode cX11_init 33 = .ok (.invokespecial 25, 3) := by decide +kernel
theorem dX11_init_36 : decode cX11_init 36 = .ok (.putfield 28, 3) := by decide +kernel
theorem dX11_init_39 : decode cX11_init 39 = .ok (.aload_n 0, 1) := by decide +kernel
theorem dX11_init_40 : decode cX11_init 40 = .ok (.new 23, 3) := by decide +kernel
theorem dX11_init_43 : decode cX11_init 43 = .ok (.dup, 1) := by decide +kernel
theorem dX11_init_44 : decode cX11_init 44 = .ok (.iconst 2, 1) := by decide +kernel
theorem dX11_init_45 : decode cX11_init 45 = .ok (.invokespecial 25, 3) := by decide +kernel
theorem dX11_init_48 : decode cX11_init 48 = .ok (.putfield 32, 3) := by decide +kernel
theorem dX11_init_51 : decode cX11_init 51 = .ok (.aload_n 0, 1) := by decide +kernel
theorem dX11_init_52 : decode cX11_init 52 = .ok (.new 35, 3) := by decide +kernel
theorem dX11_init_55 : decode cX11_init 55 = .ok (.dup, 1) := by decide +kernel
theorem dX11_init_56 : decode cX11_init 56 = .ok (.aload_n 0, 1) := by decide +kernel
theorem dX11_init_57 : decode cX11_init 57 = .ok (.getfield 19, 3) := by decide +kernel
theorem dX11_init_60 : decode cX11_init 60 = .ok (.invokespecial 37, 3) := by decide +kernel
theorem dX11_init_63 : decode cX11_init 63 = .ok (.putfield 40, 3) := by decide +kernel
theorem dX11_init_66 : decode cX11_init 66 = .ok (.aload_n 0, 1) := by decide +kernel
theorem dX11_init_67 : decode cX11_init 67 = .ok (.new 35, 3) := by decide +kernel
theorem dX11_init_70 : decode cX11_init 70 = .ok (.dup, 1) := by decide +kernel
theorem dX11_init_71 : decode cX11_init 71 = .ok (.aload_n 0, 1) := by decide +kernel
theorem dX11_init_72 : decode cX11_init 72 = .ok (.getfield 19, 3) := by decide +kernel
theorem dX11_init_75 : decode cX11_init 75 = .ok (.invokespecial 37, 3) := by decide +kernel
theorem dX11_init_78 : decode cX11_init 78 = .ok (.putfield 44, 3) := by decide +kernel
theorem dX11_init_81 : decode cX11_init 81 = .ok (.aload_n 0, 1) := by decide +kernel
theorem dX11_init_82 : decode cX11_init 82 = .ok (.new 47, 3) := by decide +kernel
theorem dX11_init_85 : decode cX11_init 85 = .ok (.dup, 1) := by decide +kernel
theorem dX11_init_86 : decode cX11_init 86 = .ok (.aload_n 0, 1) := by decide +kernel
theorem dX11_init_87 : decode cX11_init 87 = .ok (.getfield 19, 3) := by decide +kernel
theorem dX11_init_90 : decode cX11_init 90 = .ok (.invokespecial 49, 3) := by decide +kernel
theorem dX11_init_93 : decode cX11_init 93 = .ok (.putfield 50, 3) := by decide +kernel
theorem dX11_init_96 : decode cX11_init 96 = .ok (.aload_n 0, 1) := by decide +kernel
theorem dX11_init_97 : decode cX11_init 97 = .ok (.new 54, 3) := by decide +kernel
theorem dX11_init_100 : decode cX11_init 100 = .ok (.dup, 1) := by decide +kernel
theorem dX11_init_101 : decode cX11_init 101 = .ok (.aload_n 0, 1) := by decide +kernel
theorem dX11_init_102 : decode cX11_init 102 = .ok (.getfield 19, 3) := by decide +kernel
theorem dX11_init_105 : decode cX11_init 105 = .ok (.aload_n 0, 1) := by decide +kernel
theorem dX11_init_106 : decode cX11_init 106 = .ok (.getfield 50, 3) := by decide +kernel
theorem dX11_init_109 : decode cX11_init 109 = .ok (.invokespecial 56, 3) := by decide +kernel
theorem dX11_init_112 : decode cX11_init 112 = .ok (.putfield 59, 3) := by decide +kernel
theorem dX11_init_115 : decode cX11_init 115 = .ok (.aload_n 0, 1) := by decide +kernel
theorem dX11_init_116 : decode cX11_init 116 = .ok (.new 63, 3) := by decide +kernel
theorem dX11_init_119 : decode cX11_init 119 = .ok (.dup, 1) := by decide +kernel
theorem dX11_init_120 : decode cX11_init 120 = .ok (.aload_n 0, 1) := by decide +kernel
theorem dX11_init_121 : decode cX11_init 121 = .ok (.getfield 19, 3) := by decide +kernel
theorem dX11_init_124 : decode cX11_init 124 = .ok (.aload_n 0, 1) := by decide +kernel
theorem dX11_init_125 : decode cX11_init 125 = .ok (.getfield 50, 3) := by decide +kernel
theorem dX11_init_128 : decode cX11_init 128 = .ok (.invokespecial 65, 3) := by decide +kernel
theorem dX11_init_131 : decode cX11_init 131 = .ok (.putfield 66, 3) := by decide +kernel
theorem dX11_init_134 : decode cX11_init 134 = .ok (.aload_n 0, 1) := by decide +kernel
theorem dX11_init_135 : decode cX11_init 135 = .ok (.new 70, 3) := by decide +kernel
theorem dX11_init_138 : decode cX11_init 138 = .ok (.dup, 1) := by decide +kernel
theorem dX11_init_139 : decode cX11_init 139 = .ok (.invokespecial 72, 3) := by decide +kernel
theorem dX11_init_142 : decode cX11_init 142 = .ok (.putfield 73, 3) := by decide +kernel
theorem dX11_init_145 : decode cX11_init 145 = .ok (.aload_n 0, 1) := by decide +kernel
theorem dX11_init_146 : decode cX11_init 146 = .ok (.bipush 10, 2) := by decide +kernel
theorem dX11_init_148 : decode cX11_init 148 = .ok (.newarray .long, 2) := by decide +kernel
theorem dX11_init_150 : decode cX11_init 150 = .ok (.putfield 77, 3) := by decide +kernel
theorem dX11_init_153 : decode cX11_init 153 = .ok (.aload_n 0, 1) := by decide +kernel
theorem dX11_init_154 : decode cX11_init 154 = .ok (.new 81, 3) := by decide +kernel
theorem dX11_init_157 : decode cX11_init 157 = .ok (.dup, 1) := by decide +kernel
theorem dX11_init_158 : decode cX11_init 158 = .ok (.invokespecial 83, 3) := by decide +kernel
theorem dX11_init_161 : decode cX11_init 161 = .ok (.putfield 84, 3) := by decide +kernel
theorem dX11_init_164 : decode cX11_init 164 = .ok (.iconst 0, 1) := by decide +kernel
theorem dX11_init_165 : decode cX11_init 165 = .ok (.istore_n 1, 1) := by decide +kernel
theorem dX11_init_166 : decode cX11_init 166 = .ok (.iload_n 1, 1) := by decide +kernel
theorem dX11_init_167 : decode cX11_init 167 = .ok (.ldc 88, 2) := by decide +kernel
theorem dX11_init_169 : decode cX11_init 169 = .ok (.invokevirtual 90, 3) := by decide +kernel
theorem dX11_init_172 : decode cX11_init 172 = .ok (.if_icmp .ge 23, 3) := by decide +kernel
theorem dX11_init_175 : decode cX11_init 175 = .ok (.aload_n 0, 1) := by decide +kernel
theorem dX11_init_176 : decode cX11_init 176 = .ok (.getfield 12, 3) := by decide +kernel
theorem dX11_init_179 : decode cX11_init 179 = .ok (.ldc 88, 2) := by decide +kernel
theorem dX11_init_181 : decode cX11_init 181 = .ok (.iload_n 1, 1) := by decide +kernel
theorem dX11_init_182 : decode cX11_init 182 = .ok (.invokevirtual 96, 3) := by decide +kernel
theorem dX11_init_185 : decode cX11_init 185 = .ok (.invokevirtual 100, 3) := by decide +kernel
theorem dX11_init_188 : decode cX11_init 188 = .ok (.pop, 1) := by decide +kernel
theorem dX11_init_189 : decode cX11_init 189 = .ok (.iinc 1 1, 3) := by decide +kernel
theorem dX11_init_192 : decode cX11_init 192 = .ok (.goto (-26), 3) := by decide +kernel
theorem dX11_init_195 : decode cX11_init 195 = .ok (.aload_n 0, 1) := by decide +kernel
theorem dX11_init_196 : decode cX11_init 196 = .ok (.invokevirtual 104, 3) := by decide +kernel
theorem dX11_init_199 : decode cX11_init 199 = .ok (.pop, 1) := by decide +kernel
theorem dX11_init_200 : decode cX11_init 200 = .ok (.aload_n 0, 1) := by decide +kernel
theorem dX11_init_201 : decode cX11_init 201 = .ok (.getfield 12, 3) := by decide +kernel
theorem dX11_init_204 : decode cX11_init 204 = .ok (.invokevirtual 108, 3) := by decide +kernel
theorem dX11_init_207 : decode cX11_init 207 = .ok (.pop, 1) := by decide +kernel
theorem dX11_init_208 : decode cX11_init 208 = .ok (.return_, 1) := by decide +kernel
theorem dX11_write_0 : decode cX11_write 0 = .ok (.iload_n 1, 1) := by decide +kernel
theorem dX11_write_1 : decode cX11_write 1 = .ok (.bipush 32, 2) := by decide +kernel
theorem dX11_write_3 : decode cX11_write 3 = .ok (.bipush 126, 2) := by decide +kernel
theorem dX11_write_5 : decode cX11_write 5 = .ok (.invokestatic 111, 3) := by decide +kernel
theorem dX11_write_8 : decode cX11_write 8 = .ok (.ifCond .ne 5, 3) := by decide +kernel
theorem dX11_write_11 : decode cX11_write 11 = .ok (.iconst (-1), 1) := by decide +kernel
theorem dX11_write_12 : decode cX11_write 12 = .ok (.ireturn, 1) := by decide +kernel
theorem dX11_write_13 : decode cX11_write 13 = .ok (.aload_n 0, 1) := by decide +kernel
theorem dX11_write_14 : decode cX11_write 14 = .ok (.getfield 12, 3) := by decide +kernel
theorem dX11_write_17 : decode cX11_write 17 = .ok (.iload_n 1, 1) := by decide +kernel
theorem dX11_write_18 : decode cX11_write 18 = .ok (.invokevirtual 100, 3) := by decide +kernel
theorem dX11_write_21 : decode cX11_write 21 = .ok (.ifCond .ne 6, 3) := by decide +kernel
theorem dX11_write_24 : decode cX11_write 24 = .ok (.bipush (-3), 2) := by decide +kernel
theorem dX11_write_26 : decode cX11_write 26 = .ok (.ireturn, 1) := by decide +kernel
theorem dX11_write_27 : decode cX11_write 27 = .ok (.aload_n 0, 1) := by decide +kernel
theorem dX11_write_28 : decode cX11_write 28 = .ok (.getfield 12, 3) := by decide +kernel
theorem dX11_write_31 : decode cX11_write 31 = .ok (.getfield 115, 3) := by decide +kernel
theorem dX11_write_34 : decode cX11_write 34 = .ok (.ireturn, 1) := by decide +kernel
theorem dX11_wipe_0 : decode cX11_wipe 0 = .ok (.aload_n 0, 1) := by decide +kernel
theorem dX11_wipe_1 : decode cX11_wipe 1 = .ok (.getfield 12, 3) := by decide +kernel
theorem dX11_wipe_4 : decode cX11_wipe 4 = .ok (.invokevirtual 108, 3) := by decide +kernel
theorem dX11_wipe_7 : decode cX11_wipe 7 = .ok (.ireturn, 1) := by decide +kernel
theorem dX11_fault_0 : decode cX11_fault 0 = .ok (.aload_n 0, 1) := by decide +kernel
theorem dX11_fault_1 : decode cX11_fault 1 = .ok (.getfield 12, 3) := by decide +kernel
theorem dX11_fault_4 : decode cX11_fault 4 = .ok (.aload_n 0, 1) := by decide +kernel
theorem dX11_fault_5 : decode cX11_fault 5 = .ok (.getfield 84, 3) := by decide +kernel
theorem dX11_fault_8 : decode cX11_fault 8 = .ok (.invokevirtual 118, 3) := by decide +kernel
theorem dX11_fault_11 : decode cX11_fault 11 = .ok (.ireturn, 1) := by decide +kernel
theorem dX11_lay_0 : decode cX11_lay 0 = .ok (.aload_n 0, 1) := by decide +kernel
theorem dX11_lay_1 : decode cX11_lay 1 = .ok (.invokevirtual 104, 3) := by decide +kernel
theorem dX11_lay_4 : decode cX11_lay 4 = .ok (.ifCond .eq 16, 3) := by decide +kernel
theorem dX11_lay_7 : decode cX11_lay 7 = .ok (.aload_n 0, 1) := by decide +kernel
theorem dX11_lay_8 : decode cX11_lay 8 = .ok (.getfield 19, 3) := by decide +kernel
theorem dX11_lay_11 : decode cX11_lay 11 = .ok (.getfield 122, 3) := by decide +kernel
theorem dX11_lay_14 : decode cX11_lay 14 = .ok (.getfield 125, 3) := by decide +kernel
theorem dX11_lay_17 : decode cX11_lay 17 = .ok (.goto 5, 3) := by decide +kernel
theorem dX11_lay_20 : decode cX11_lay 20 = .ok (.bipush (-2), 2) := by decide +kernel
theorem dX11_lay_22 : decode cX11_lay 22 = .ok (.ireturn, 1) := by decide +kernel
theorem dX11_level_0 : decode cX11_level 0 = .ok (.aload_n 0, 1) := by decide +kernel
theorem dX11_level_1 : decode cX11_level 1 = .ok (.getfield 19, 3) := by decide +kernel
theorem dX11_level_4 : decode cX11_level 4 = .ok (.iload_n 1, 1) := by decide +kernel
theorem dX11_level_5 : decode cX11_level 5 = .ok (.invokevirtual 128, 3) := by decide +kernel
theorem dX11_level_8 : decode cX11_level 8 = .ok (.ifCond .ne 5, 3) := by decide +kernel
theorem dX11_level_11 : decode cX11_level 11 = .ok (.iconst (-1), 1) := by decide +kernel
theorem dX11_level_12 : decode cX11_level 12 = .ok (.ireturn, 1) := by decide +kernel
theorem dX11_level_13 : decode cX11_level 13 = .ok (.iload_n 2, 1) := by decide +kernel
theorem dX11_level_14 : decode cX11_level 14 = .ok (.tableswitch 65 0 2 #[26, 39, 52], 26) := by decide +kernel
theorem dX11_level_40 : decode cX11_level 40 = .ok (.aload_n 0, 1) := by decide +kernel
theorem dX11_level_41 : decode cX11_level 41 = .ok (.getfield 19, 3) := by decide +kernel
theorem dX11_level_44 : decode cX11_level 44 = .ok (.getfield 122, 3) := by decide +kernel
theorem dX11_level_47 : decode cX11_level 47 = .ok (.getfield 131, 3) := by decide +kernel
theorem dX11_level_50 : decode cX11_level 50 = .ok (.iload_n 1, 1) := by decide +kernel
theorem dX11_level_51 : decode cX11_level 51 = .ok (.iaload, 1) := by decide +kernel
theorem dX11_level_52 : decode cX11_level 52 = .ok (.ireturn, 1) := by decide +kernel
theorem dX11_level_53 : decode cX11_level 53 = .ok (.aload_n 0, 1) := by decide +kernel
theorem dX11_level_54 : decode cX11_level 54 = .ok (.getfield 19, 3) := by decide +kernel
theorem dX11_level_57 : decode cX11_level 57 = .ok (.getfield 122, 3) := by decide +kernel
theorem dX11_level_60 : decode cX11_level 60 = .ok (.getfield 135, 3) := by decide +kernel
theorem dX11_level_63 : decode cX11_level 63 = .ok (.iload_n 1, 1) := by decide +kernel
theorem dX11_level_64 : decode cX11_level 64 = .ok (.iaload, 1) := by decide +kernel
theorem dX11_level_65 : decode cX11_level 65 = .ok (.ireturn, 1) := by decide +kernel
theorem dX11_level_66 : decode cX11_level 66 = .ok (.aload_n 0, 1) := by decide +kernel
theorem dX11_level_67 : decode cX11_level 67 = .ok (.getfield 19, 3) := by decide +kernel
theorem dX11_level_70 : decode cX11_level 70 = .ok (.getfield 122, 3) := by decide +kernel
theorem dX11_level_73 : decode cX11_level 73 = .ok (.getfield 138, 3) := by decide +kernel
theorem dX11_level_76 : decode cX11_level 76 = .ok (.iload_n 1, 1) := by decide +kernel
theorem dX11_level_77 : decode cX11_level 77 = .ok (.iaload, 1) := by decide +kernel
theorem dX11_level_78 : decode cX11_level 78 = .ok (.ireturn, 1) := by decide +kernel
theorem dX11_level_79 : decode cX11_level 79 = .ok (.iconst (-1), 1) := by decide +kernel
theorem dX11_level_80 : decode cX11_level 80 = .ok (.ireturn, 1) := by decide +kernel
theorem dX11_town_0 : decode cX11_town 0 = .ok (.aload_n 0, 1) := by decide +kernel
theorem dX11_town_1 : decode cX11_town 1 = .ok (.getfield 19, 3) := by decide +kernel
theorem dX11_town_4 : decode cX11_town 4 = .ok (.iload_n 1, 1) := by decide +kernel
theorem dX11_town_5 : decode cX11_town 5 = .ok (.invokevirtual 141, 3) := by decide +kernel
theorem dX11_town_8 : decode cX11_town 8 = .ok (.ifCond .ne 5, 3) := by decide +kernel
theorem dX11_town_11 : decode cX11_town 11 = .ok (.iconst (-1), 1) := by decide +kernel
theorem dX11_town_12 : decode cX11_town 12 = .ok (.ireturn, 1) := by decide +kernel
theorem dX11_town_13 : decode cX11_town 13 = .ok (.iload_n 2, 1) := by decide +kernel
theorem dX11_town_14 : decode cX11_town 14 = .ok (.tableswitch 107 0 4 #[34, 47, 60, 73, 86], 34) := by decide +kernel
theorem dX11_town_48 : decode cX11_town 48 = .ok (.aload_n 0, 1) := by decide +kernel
theorem dX11_town_49 : decode cX11_town 49 = .ok (.getfield 19, 3) := by decide +kernel
theorem dX11_town_52 : decode cX11_town 52 = .ok (.getfield 122, 3) := by decide +kernel
theorem dX11_town_55 : decode cX11_town 55 = .ok (.getfield 144, 3) := by decide +kernel
theorem dX11_town_58 : decode cX11_town 58 = .ok (.iload_n 1, 1) := by decide +kernel
theorem dX11_town_59 : decode cX11_town 59 = .ok (.iaload, 1) := by decide +kernel
theorem dX11_town_60 : decode cX11_town 60 = .ok (.ireturn, 1) := by decide +kernel
theorem dX11_town_61 : decode cX11_town 61 = .ok (.aload_n 0, 1) := by decide +kernel
theorem dX11_town_62 : decode cX11_town 62 = .ok (.getfield 19, 3) := by decide +kernel
theorem dX11_town_65 : decode cX11_town 65 = .ok (.getfield 147, 3) := by decide +kernel
theorem dX11_town_68 : decode cX11_town 68 = .ok (.getfield 151, 3) := by decide +kernel
theorem dX11_town_71 : decode cX11_town 71 = .ok (.iload_n 1, 1) := by decide +kernel
theorem dX11_town_72 : decode cX11_town 72 = .ok (.iaload, 1) := by decide +kernel
theorem dX11_town_73 : decode cX11_town 73 = .ok (.ireturn, 1) := by decide +kernel
theorem dX11_town_74 : decode cX11_town 74 = .ok (.aload_n 0, 1) := by decide +kernel
theorem dX11_town_75 : decode cX11_town 75 = .ok (.getfield 19, 3) := by decide +kernel
theorem dX11_town_78 : decode cX11_town 78 = .ok (.getfield 122, 3) := by decide +kernel
theorem dX11_town_81 : decode cX11_town 81 = .ok (.getfield 156, 3) := by decide +kernel
theorem dX11_town_84 : decode cX11_town 84 = .ok (.iload_n 1, 1) := by decide +kernel
theorem dX11_town_85 : decode cX11_town 85 = .ok (.iaload, 1) := by decide +kernel
theorem dX11_town_86 : decode cX11_town 86 = .ok (.ireturn, 1) := by decide +kernel
theorem dX11_town_87 : decode cX11_town 87 = .ok (.aload_n 0, 1) := by decide +kernel
theorem dX11_town_88 : decode cX11_town 88 = .ok (.getfield 19, 3) := by decide +kernel
theorem dX11_town_91 : decode cX11_town 91 = .ok (.getfield 122, 3) := by decide +kernel
theorem dX11_town_94 : decode cX11_town 94 = .ok (.getfield 159, 3) := by decide +kernel
theorem dX11_town_97 : decode cX11_town 97 = .ok (.iload_n 1, 1) := by decide +kernel
theorem dX11_town_98 : decode cX11_town 98 = .ok (.iaload, 1) := by decide +kernel
theorem dX11_town_99 : decode cX11_town 99 = .ok (.ireturn, 1) := by decide +kernel
theorem dX11_town_100 : decode cX11_town 100 = .ok (.aload_n 0, 1) := by decide +kernel
theorem dX11_town_101 : decode cX11_town 101 = .ok (.getfield 19, 3) := by decide +kernel
theorem dX11_town_104 : decode cX11_town 104 = .ok (.getfield 147, 3) := by decide +kernel
theorem dX11_town_107 : decode cX11_town 107 = .ok (.getfield 162, 3) := by decide +kernel
theorem dX11_town_110 : decode cX11_town 110 = .ok (.iload_n 1, 1) := by decide +kernel
theorem dX11_town_111 : decode cX11_town 111 = .ok (.baload, 1) := by decide +kernel
theorem dX11_town_112 : decode cX11_town 112 = .ok (.ifCond .eq 7, 3) := by decide +kernel
theorem dX11_town_115 : decode cX11_town 115 = .ok (.iconst 1, 1) := by decide +kernel
theorem dX11_town_116 : decode cX11_town 116 = .ok (.goto 4, 3) := by decide +kernel
theorem dX11_town_119 : decode cX11_town 119 = .ok (.iconst 0, 1) := by decide +kernel
theorem dX11_town_120 : decode cX11_town 120 = .ok (.ireturn, 1) := by decide +kernel
theorem dX11_town_121 : decode cX11_town 121 = .ok (.iconst (-1), 1) := by decide +kernel
theorem dX11_town_122 : decode cX11_town 122 = .ok (.ireturn, 1) := by decide +kernel
theorem dX11_thing_0 : decode cX11_thing 0 = .ok (.aload_n 0, 1) := by decide +kernel
theorem dX11_thing_1 : decode cX11_thing 1 = .ok (.getfield 19, 3) := by decide +kernel
theorem dX11_thing_4 : decode cX11_thing 4 = .ok (.iload_n 1, 1) := by decide +kernel
theorem dX11_thing_5 : decode cX11_thing 5 = .ok (.invokevirtual 166, 3) := by decide +kernel
theorem dX11_thing_8 : decode cX11_thing 8 = .ok (.ifCond .ne 5, 3) := by decide +kernel
theorem dX11_thing_11 : decode cX11_thing 11 = .ok (.iconst (-1), 1) := by decide +kernel
theorem dX11_thing_12 : decode cX11_thing 12 = .ok (.ireturn, 1) := by decide +kernel
theorem dX11_thing_13 : decode cX11_thing 13 = .ok (.iload_n 2, 1) := by decide +kernel
theorem dX11_thing_14 : decode cX11_thing 14 = .ok (.tableswitch 82 0 3 #[30, 43, 56, 69], 30) := by decide +kernel
theorem dX11_thing_44 : decode cX11_thing 44 = .ok (.aload_n 0, 1) := by decide +kernel
theorem dX11_thing_45 : decode cX11_thing 45 = .ok (.getfield 19, 3) := by decide +kernel
theorem dX11_thing_48 : decode cX11_thing 48 = .ok (.getfield 147, 3) := by decide +kernel
theorem dX11_thing_51 : decode cX11_thing 51 = .ok (.getfield 169, 3) := by decide +kernel
theorem dX11_thing_54 : decode cX11_thing 54 = .ok (.iload_n 1, 1) := by decide +kernel
theorem dX11_thing_55 : decode cX11_thing 55 = .ok (.iaload, 1) := by decide +kernel
theorem dX11_thing_56 : decode cX11_thing 56 = .ok (.ireturn, 1) := by decide +kernel
theorem dX11_thing_57 : decode cX11_thing 57 = .ok (.aload_n 0, 1) := by decide +kernel
theorem dX11_thing_58 : decode cX11_thing 58 = .ok (.getfield 19, 3) := by decide +kernel
theorem dX11_thing_61 : decode cX11_thing 61 = .ok (.getfield 147, 3) := by decide +kernel
theorem dX11_thing_64 : decode cX11_thing 64 = .ok (.getfield 172, 3) := by decide +kernel
theorem dX11_thing_67 : decode cX11_thing 67 = .ok (.iload_n 1, 1) := by decide +kernel
theorem dX11_thing_68 : decode cX11_thing 68 = .ok (.iaload, 1) := by decide +kernel
theorem dX11_thing_69 : decode cX11_thing 69 = .ok (.ireturn, 1) := by decide +kernel
theorem dX11_thing_70 : decode cX11_thing 70 = .ok (.aload_n 0, 1) := by decide +kernel
theorem dX11_thing_71 : decode cX11_thing 71 = .ok (.getfield 19, 3) := by decide +kernel
theorem dX11_thing_74 : decode cX11_thing 74 = .ok (.getfield 147, 3) := by decide +kernel
theorem dX11_thing_77 : decode cX11_thing 77 = .ok (.getfield 175, 3) := by decide +kernel
theorem dX11_thing_80 : decode cX11_thing 80 = .ok (.iload_n 1, 1) := by decide +kernel
theorem dX11_thing_81 : decode cX11_thing 81 = .ok (.iaload, 1) := by decide +kernel
theorem dX11_thing_82 : decode cX11_thing 82 = .ok (.ireturn, 1) := by decide +kernel
theorem dX11_thing_83 : decode cX11_thing 83 = .ok (.aload_n 0, 1) := by decide +kernel
theorem dX11_thing_84 : decode cX11_thing 84 = .ok (.getfield 19, 3) := by decide +kernel
theorem dX11_thing_87 : decode cX11_thing 87 = .ok (.getfield 147, 3) := by decide +kernel
theorem dX11_thing_90 : decode cX11_thing 90 = .ok (.getfield 178, 3) := by decide +kernel
theorem dX11_thing_93 : decode cX11_thing 93 = .ok (.iload_n 1, 1) := by decide +kernel
theorem dX11_thing_94 : decode cX11_thing 94 = .ok (.iaload, 1) := by decide +kernel
theorem dX11_thing_95 : decode cX11_thing 95 = .ok (.ireturn, 1) := by decide +kernel
theorem dX11_thing_96 : decode cX11_thing 96 = .ok (.iconst (-1), 1) := by decide +kernel
theorem dX11_thing_97 : decode cX11_thing 97 = .ok (.ireturn, 1) := by decide +kernel
theorem dX11_steps_0 : decode cX11_steps 0 = .ok (.iload_n 1, 1) := by decide +kernel
theorem dX11_steps_1 : decode cX11_steps 1 = .ok (.iconst 1, 1) := by decide +kernel
theorem dX11_steps_2 : decode cX11_steps 2 = .ok (.bipush 60, 2) := by decide +kernel
theorem dX11_steps_4 : decode cX11_steps 4 = .ok (.invokestatic 111, 3) := by decide +kernel
theorem dX11_steps_7 : decode cX11_steps 7 = .ok (.ifCond .ne 5, 3) := by decide +kernel
theorem dX11_steps_10 : decode cX11_steps 10 = .ok (.iconst (-1), 1) := by decide +kernel
theorem dX11_steps_11 : decode cX11_steps 11 = .ok (.ireturn, 1) := by decide +kernel
theorem dX11_steps_12 : decode cX11_steps 12 = .ok (.aload_n 0, 1) := by decide +kernel
theorem dX11_steps_13 : decode cX11_steps 13 = .ok (.getfield 19, 3) := by decide +kernel
theorem dX11_steps_16 : decode cX11_steps 16 = .ok (.getfield 147, 3) := by decide +kernel
theorem dX11_steps_19 : decode cX11_steps 19 = .ok (.getfield 181, 3) := by decide +kernel
theorem dX11_steps_22 : decode cX11_steps 22 = .ok (.iload_n 1, 1) := by decide +kernel
theorem dX11_steps_23 : decode cX11_steps 23 = .ok (.iadd, 1) := by decide +kernel
theorem dX11_steps_24 : decode cX11_steps 24 = .ok (.sipush 9999, 3) := by decide +kernel
theorem dX11_steps_27 : decode cX11_steps 27 = .ok (.if_icmp .le 6, 3) := by decide +kernel
theorem dX11_steps_30 : decode cX11_steps 30 = .ok (.bipush (-2), 2) := by decide +kernel
theorem dX11_steps_32 : decode cX11_steps 32 = .ok (.ireturn, 1) := by decide +kernel
theorem dX11_steps_33 : decode cX11_steps 33 = .ok (.aload_n 0, 1) := by decide +kernel
theorem dX11_steps_34 : decode cX11_steps 34 = .ok (.getfield 28, 3) := by decide +kernel
theorem dX11_steps_37 : decode cX11_steps 37 = .ok (.aload_n 0, 1) := by decide +kernel
theorem dX11_steps_38 : decode cX11_steps 38 = .ok (.getfield 19, 3) := by decide +kernel
theorem dX11_steps_41 : decode cX11_steps 41 = .ok (.getfield 147, 3) := by decide +kernel
theorem dX11_steps_44 : decode cX11_steps 44 = .ok (.invokevirtual 184, 3) := by decide +kernel
theorem dX11_steps_47 : decode cX11_steps 47 = .ok (.iconst 0, 1) := by decide +kernel
theorem dX11_steps_48 : decode cX11_steps 48 = .ok (.istore_n 2, 1) := by decide +kernel
theorem dX11_steps_49 : decode cX11_steps 49 = .ok (.iload_n 2, 1) := by decide +kernel
theorem dX11_steps_50 : decode cX11_steps 50 = .ok (.aload_n 0, 1) := by decide +kernel
theorem dX11_steps_51 : decode cX11_steps 51 = .ok (.getfield 19, 3) := by decide +kernel
theorem dX11_steps_54 : decode cX11_steps 54 = .ok (.getfield 147, 3) := by decide +kernel
theorem dX11_steps_57 : decode cX11_steps 57 = .ok (.getfield 188, 3) := by decide +kernel
theorem dX11_steps_60 : decode cX11_steps 60 = .ok (.if_icmp .ge 33, 3) := by decide +kernel
theorem dX11_steps_63 : decode cX11_steps 63 = .ok (.aload_n 0, 1) := by decide +kernel
theorem dX11_steps_64 : decode cX11_steps 64 = .ok (.getfield 40, 3) := by decide +kernel
theorem dX11_steps_67 : decode cX11_steps 67 = .ok (.iload_n 2, 1) := by decide +kernel
theorem dX11_steps_68 : decode cX11_steps 68 = .ok (.invokevirtual 191, 3) := by decide +kernel
theorem dX11_steps_71 : decode cX11_steps 71 = .ok (.aload_n 0, 1) := by decide +kernel
theorem dX11_steps_72 : decode cX11_steps 72 = .ok (.getfield 40, 3) := by decide +kernel
theorem dX11_steps_75 : decode cX11_steps 75 = .ok (.iload_n 1, 1) := by decide +kernel
theorem dX11_steps_76 : decode cX11_steps 76 = .ok (.invokevirtual 194, 3) := by decide +kernel
theorem dX11_steps_79 : decode cX11_steps 79 = .ok (.aload_n 0, 1) := by decide +kernel
theorem dX11_steps_80 : decode cX11_steps 80 = .ok (.getfield 40, 3) := by decide +kernel
theorem dX11_steps_83 : decode cX11_steps 83 = .ok (.iload_n 2, 1) := by decide +kernel
theorem dX11_steps_84 : decode cX11_steps 84 = .ok (.invokevirtual 197, 3) := by decide +kernel
theorem dX11_steps_87 : decode cX11_steps 87 = .ok (.iinc 2 1, 3) := by decide +kernel
theorem dX11_steps_90 : decode cX11_steps 90 = .ok (.goto (-41), 3) := by decide +kernel
theorem dX11_steps_93 : decode cX11_steps 93 = .ok (.aload_n 0, 1) := by decide +kernel
theorem dX11_steps_94 : decode cX11_steps 94 = .ok (.getfield 19, 3) := by decide +kernel
theorem dX11_steps_97 : decode cX11_steps 97 = .ok (.getfield 147, 3) := by decide +kernel
theorem dX11_steps_100 : decode cX11_steps 100 = .ok (.dup, 1) := by decide +kernel
theorem dX11_steps_101 : decode cX11_steps 101 = .ok (.getfield 181, 3) := by decide +kernel
theorem dX11_steps_104 : decode cX11_steps 104 = .ok (.iload_n 1, 1) := by decide +kernel
theorem dX11_steps_105 : decode cX11_steps 105 = .ok (.iadd, 1) := by decide +kernel
theorem dX11_steps_106 : decode cX11_steps 106 = .ok (.putfield 181, 3) := by decide +kernel
theorem dX11_steps_109 : decode cX11_steps 109 = .ok (.aload_n 0, 1) := by decide +kernel
theorem dX11_steps_110 : decode cX11_steps 110 = .ok (.getfield 19, 3) := by decide +kernel
theorem dX11_steps_113 : decode cX11_steps 113 = .ok (.getfield 147, 3) := by decide +kernel
theorem dX11_steps_116 : decode cX11_steps 116 = .ok (.getfield 181, 3) := by decide +kernel
theorem dX11_steps_119 : decode cX11_steps 119 = .ok (.ireturn, 1) := by decide +kernel
theorem dX11_letGo_0 : decode cX11_letGo 0 = .ok (.aload_n 0, 1) := by decide +kernel
theorem dX11_letGo_1 : decode cX11_letGo 1 = .ok (.getfield 19, 3) := by decide +kernel
theorem dX11_letGo_4 : decode cX11_letGo 4 = .ok (.iload_n 1, 1) := by decide +kernel
theorem dX11_letGo_5 : decode cX11_letGo 5 = .ok (.invokevirtual 141, 3) := by decide +kernel
theorem dX11_letGo_8 : decode cX11_letGo 8 = .ok (.ifCond .eq 13, 3) := by decide +kernel
theorem dX11_letGo_11 : decode cX11_letGo 11 = .ok (.iload_n 2, 1) := by decide +kernel
theorem dX11_letGo_12 : decode cX11_letGo 12 = .ok (.iconst 0, 1) := by decide +kernel
theorem dX11_letGo_13 : decode cX11_letGo 13 = .ok (.bipush 9, 2) := by decide +kernel
theorem dX11_letGo_15 : decode cX11_letGo 15 = .ok (.invokestatic 111, 3) := by decide +kernel
theorem dX11_letGo_18 : decode cX11_letGo 18 = .ok (.ifCond .ne 5, 3) := by decide +kernel
theorem dX11_letGo_21 : decode cX11_letGo 21 = .ok (.iconst (-1), 1) := by decide +kernel
theorem dX11_letGo_22 : decode cX11_letGo 22 = .ok (.ireturn, 1) := by decide +kernel
theorem dX11_letGo_23 : decode cX11_letGo 23 = .ok (.aload_n 0, 1) := by decide +kernel
theorem dX11_letGo_24 : decode cX11_letGo 24 = .ok (.getfield 19, 3) := by decide +kernel
theorem dX11_letGo_27 : decode cX11_letGo 27 = .ok (.getfield 147, 3) := by decide +kernel
theorem dX11_letGo_30 : decode cX11_letGo 30 = .ok (.getfield 162, 3) := by decide +kernel
theorem dX11_letGo_33 : decode cX11_letGo 33 = .ok (.iload_n 1, 1) := by decide +kernel
theorem dX11_letGo_34 : decode cX11_letGo 34 = .ok (.baload, 1) := by decide +kernel
theorem dX11_letGo_35 : decode cX11_letGo 35 = .ok (.ifCond .eq 6, 3) := by decide +kernel
theorem dX11_letGo_38 : decode cX11_letGo 38 = .ok (.bipush (-2), 2) := by decide +kernel
theorem dX11_letGo_40 : decode cX11_letGo 40 = .ok (.ireturn, 1) := by decide +kernel
theorem dX11_letGo_41 : decode cX11_letGo 41 = .ok (.aload_n 0, 1) := by decide +kernel
theorem dX11_letGo_42 : decode cX11_letGo 42 = .ok (.getfield 19, 3) := by decide +kernel
theorem dX11_letGo_45 : decode cX11_letGo 45 = .ok (.getfield 147, 3) := by decide +kernel
theorem dX11_letGo_48 : decode cX11_letGo 48 = .ok (.getfield 188, 3) := by decide +kernel
theorem dX11_letGo_51 : decode cX11_letGo 51 = .ok (.bipush 7, 2) := by decide +kernel
theorem dX11_letGo_53 : decode cX11_letGo 53 = .ok (.if_icmp .lt 6, 3) := by decide +kernel
theorem dX11_letGo_56 : decode cX11_letGo 56 = .ok (.bipush (-3), 2) := by decide +kernel
theorem dX11_letGo_58 : decode cX11_letGo 58 = .ok (.ireturn, 1) := by decide +kernel
theorem dX11_letGo_59 : decode cX11_letGo 59 = .ok (.aload_n 0, 1) := by decide +kernel
theorem dX11_letGo_60 : decode cX11_letGo 60 = .ok (.getfield 28, 3) := by decide +kernel
theorem dX11_letGo_63 : decode cX11_letGo 63 = .ok (.aload_n 0, 1) := by decide +kernel
theorem dX11_letGo_64 : decode cX11_letGo 64 = .ok (.getfield 19, 3) := by decide +kernel
theorem dX11_letGo_67 : decode cX11_letGo 67 = .ok (.getfield 147, 3) := by decide +kernel
theorem dX11_letGo_70 : decode cX11_letGo 70 = .ok (.invokevirtual 184, 3) := by decide +kernel
theorem dX11_letGo_73 : decode cX11_letGo 73 = .ok (.aload_n 0, 1) := by decide +kernel
theorem dX11_letGo_74 : decode cX11_letGo 74 = .ok (.getfield 19, 3) := by decide +kernel
theorem dX11_letGo_77 : decode cX11_letGo 77 = .ok (.getfield 147, 3) := by decide +kernel
theorem dX11_letGo_80 : decode cX11_letGo 80 = .ok (.aload_n 0, 1) := by decide +kernel
theorem dX11_letGo_81 : decode cX11_letGo 81 = .ok (.getfield 19, 3) := by decide +kernel
theorem dX11_letGo_84 : decode cX11_letGo 84 = .ok (.getfield 122, 3) := by decide +kernel
theorem dX11_letGo_87 : decode cX11_letGo 87 = .ok (.getfield 144, 3) := by decide +kernel
theorem dX11_letGo_90 : decode cX11_letGo 90 = .ok (.iload_n 1, 1) := by decide +kernel
theorem dX11_letGo_91 : decode cX11_letGo 91 = .ok (.iaload, 1) := by decide +kernel
theorem dX11_letGo_92 : decode cX11_letGo 92 = .ok (.aload_n 0, 1) := by decide +kernel
theorem dX11_letGo_93 : decode cX11_letGo 93 = .ok (.getfield 19, 3) := by decide +kernel
theorem dX11_letGo_96 : decode cX11_letGo 96 = .ok (.getfield 147, 3) := by decide +kernel
theorem dX11_letGo_99 : decode cX11_letGo 99 = .ok (.getfield 151, 3) := by decide +kernel
theorem dX11_letGo_102 : decode cX11_letGo 102 = .ok (.iload_n 1, 1) := by decide +kernel
theorem dX11_letGo_103 : decode cX11_letGo 103 = .ok (.iaload, 1) := by decide +kernel
theorem dX11_letGo_104 : decode cX11_letGo 104 = .ok (.iload_n 2, 1) := by decide +kernel
theorem dX11_letGo_105 : decode cX11_letGo 105 = .ok (.invokevirtual 200, 3) := by decide +kernel
theorem dX11_letGo_108 : decode cX11_letGo 108 = .ok (.ireturn, 1) := by decide +kernel
theorem dX11_hang_0 : decode cX11_hang 0 = .ok (.aload_n 0, 1) := by decide +kernel
theorem dX11_hang_1 : decode cX11_hang 1 = .ok (.getfield 19, 3) := by decide +kernel
theorem dX11_hang_4 : decode cX11_hang 4 = .ok (.iload_n 1, 1) := by decide +kernel
theorem dX11_hang_5 : decode cX11_hang 5 = .ok (.invokevirtual 141, 3) := by decide +kernel
theorem dX11_hang_8 : decode cX11_hang 8 = .ok (.ifCond .eq 14, 3) := by decide +kernel
theorem dX11_hang_11 : decode cX11_hang 11 = .ok (.aload_n 0, 1) := by decide +kernel
theorem dX11_hang_12 : decode cX11_hang 12 = .ok (.getfield 19, 3) := by decide +kernel
theorem dX11_hang_15 : decode cX11_hang 15 = .ok (.iload_n 2, 1) := by decide +kernel
theorem dX11_hang_16 : decode cX11_hang 16 = .ok (.invokevirtual 204, 3) := by decide +kernel
theorem dX11_hang_19 : decode cX11_hang 19 = .ok (.ifCond .ne 5, 3) := by decide +kernel
theorem dX11_hang_22 : decode cX11_hang 22 = .ok (.iconst (-1), 1) := by decide +kernel
theorem dX11_hang_23 : decode cX11_hang 23 = .ok (.ireturn, 1) := by decide +kernel
theorem dX11_hang_24 : decode cX11_hang 24 = .ok (.aload_n 0, 1) := by decide +kernel
theorem dX11_hang_25 : decode cX11_hang 25 = .ok (.getfield 19, 3) := by decide +kernel
theorem dX11_hang_28 : decode cX11_hang 28 = .ok (.getfield 122, 3) := by decide +kernel
theorem dX11_hang_31 : decode cX11_hang 31 = .ok (.getfield 144, 3) := by decide +kernel
theorem dX11_hang_34 : decode cX11_hang 34 = .ok (.iload_n 1, 1) := by decide +kernel
theorem dX11_hang_35 : decode cX11_hang 35 = .ok (.iaload, 1) := by decide +kernel
theorem dX11_hang_36 : decode cX11_hang 36 = .ok (.iload_n 2, 1) := by decide +kernel
theorem dX11_hang_37 : decode cX11_hang 37 = .ok (.invokestatic 207, 3) := by decide +kernel
theorem dX11_hang_40 : decode cX11_hang 40 = .ok (.istore_n 3, 1) := by decide +kernel
theorem dX11_hang_41 : decode cX11_hang 41 = .ok (.aload_n 0, 1) := by decide +kernel
theorem dX11_hang_42 : decode cX11_hang 42 = .ok (.getfield 19, 3) := by decide +kernel
theorem dX11_hang_45 : decode cX11_hang 45 = .ok (.getfield 147, 3) := by decide +kernel
theorem dX11_hang_48 : decode cX11_hang 48 = .ok (.getfield 162, 3) := by decide +kernel
theorem dX11_hang_51 : decode cX11_hang 51 = .ok (.iload_n 1, 1) := by decide +kernel
theorem dX11_hang_52 : decode cX11_hang 52 = .ok (.baload, 1) := by decide +kernel
theorem dX11_hang_53 : decode cX11_hang 53 = .ok (.ifCond .ne 14, 3) := by decide +kernel
theorem dX11_hang_56 : decode cX11_hang 56 = .ok (.aload_n 0, 1) := by decide +kernel
theorem dX11_hang_57 : decode cX11_hang 57 = .ok (.getfield 50, 3) := by decide +kernel
theorem dX11_hang_60 : decode cX11_hang 60 = .ok (.iload_n 3, 1) := by decide +kernel
theorem dX11_hang_61 : decode cX11_hang 61 = .ok (.invokevirtual 211, 3) := by decide +kernel
theorem dX11_hang_64 : decode cX11_hang 64 = .ok (.ifCond .ne 6, 3) := by decide +kernel
theorem dX11_hang_67 : decode cX11_hang 67 = .ok (.bipush (-2), 2) := by decide +kernel
theorem dX11_hang_69 : decode cX11_hang 69 = .ok (.ireturn, 1) := by decide +kernel
theorem dX11_hang_70 : decode cX11_hang 70 = .ok (.aload_n 0, 1) := by decide +kernel
theorem dX11_hang_71 : decode cX11_hang 71 = .ok (.getfield 19, 3) := by decide +kernel
theorem dX11_hang_74 : decode cX11_hang 74 = .ok (.aload_n 0, 1) := by decide +kernel
theorem dX11_hang_75 : decode cX11_hang 75 = .ok (.getfield 19, 3) := by decide +kernel
theorem dX11_hang_78 : decode cX11_hang 78 = .ok (.getfield 122, 3) := by decide +kernel
theorem dX11_hang_81 : decode cX11_hang 81 = .ok (.getfield 144, 3) := by decide +kernel
theorem dX11_hang_84 : decode cX11_hang 84 = .ok (.iload_n 1, 1) := by decide +kernel
theorem dX11_hang_85 : decode cX11_hang 85 = .ok (.iaload, 1) := by decide +kernel
theorem dX11_hang_86 : decode cX11_hang 86 = .ok (.iload_n 2, 1) := by decide +kernel
theorem dX11_hang_87 : decode cX11_hang 87 = .ok (.iconst (-1), 1) := by decide +kernel
theorem dX11_hang_88 : decode cX11_hang 88 = .ok (.invokevirtual 214, 3) := by decide +kernel
theorem dX11_hang_91 : decode cX11_hang 91 = .ok (.bipush (-4), 2) := by decide +kernel
theorem dX11_hang_93 : decode cX11_hang 93 = .ok (.if_icmp .eq 6, 3) := by decide +kernel
theorem dX11_hang_96 : decode cX11_hang 96 = .ok (.bipush (-2), 2) := by decide +kernel
theorem dX11_hang_98 : decode cX11_hang 98 = .ok (.ireturn, 1) := by decide +kernel
theorem dX11_hang_99 : decode cX11_hang 99 = .ok (.aload_n 0, 1) := by decide +kernel
theorem dX11_hang_100 : decode cX11_hang 100 = .ok (.getfield 28, 3) := by decide +kernel
theorem dX11_hang_103 : decode cX11_hang 103 = .ok (.aload_n 0, 1) := by decide +kernel
theorem dX11_hang_104 : decode cX11_hang 104 = .ok (.getfield 19, 3) := by decide +kernel
theorem dX11_hang_107 : decode cX11_hang 107 = .ok (.getfield 147, 3) := by decide +kernel
theorem dX11_hang_110 : decode cX11_hang 110 = .ok (.invokevirtual 184, 3) := by decide +kernel
theorem dX11_hang_113 : decode cX11_hang 113 = .ok (.aload_n 0, 1) := by decide +kernel
theorem dX11_hang_114 : decode cX11_hang 114 = .ok (.getfield 19, 3) := by decide +kernel
theorem dX11_hang_117 : decode cX11_hang 117 = .ok (.getfield 147, 3) := by decide +kernel
theorem dX11_hang_120 : decode cX11_hang 120 = .ok (.getfield 151, 3) := by decide +kernel
theorem dX11_hang_123 : decode cX11_hang 123 = .ok (.iload_n 1, 1) := by decide +kernel
theorem dX11_hang_124 : decode cX11_hang 124 = .ok (.iaload, 1) := by decide +kernel
theorem dX11_hang_125 : decode cX11_hang 125 = .ok (.istore 4, 2) := by decide +kernel
theorem dX11_hang_127 : decode cX11_hang 127 = .ok (.aload_n 0, 1) := by decide +kernel
theorem dX11_hang_128 : decode cX11_hang 128 = .ok (.getfield 19, 3) := by decide +kernel
theorem dX11_hang_131 : decode cX11_hang 131 = .ok (.getfield 147, 3) := by decide +kernel
theorem dX11_hang_134 : decode cX11_hang 134 = .ok (.iload_n 1, 1) := by decide +kernel
theorem dX11_hang_135 : decode cX11_hang 135 = .ok (.iload_n 2, 1) := by decide +kernel
theorem dX11_hang_136 : decode cX11_hang 136 = .ok (.invokevirtual 217, 3) := by decide +kernel
theorem dX11_hang_139 : decode cX11_hang 139 = .ok (.iload 4, 2) := by decide +kernel
theorem dX11_hang_141 : decode cX11_hang 141 = .ok (.ireturn, 1) := by decide +kernel
theorem dX11_cut_0 : decode cX11_cut 0 = .ok (.aload_n 0, 1) := by decide +kernel
theorem dX11_cut_1 : decode cX11_cut 1 = .ok (.getfield 19, 3) := by decide +kernel
theorem dX11_cut_4 : decode cX11_cut 4 = .ok (.iload_n 1, 1) := by decide +kernel
theorem dX11_cut_5 : decode cX11_cut 5 = .ok (.invokevirtual 141, 3) := by decide +kernel
theorem dX11_cut_8 : decode cX11_cut 8 = .ok (.ifCond .ne 5, 3) := by decide +kernel
theorem dX11_cut_11 : decode cX11_cut 11 = .ok (.iconst (-1), 1) := by decide +kernel
theorem dX11_cut_12 : decode cX11_cut 12 = .ok (.ireturn, 1) := by decide +kernel
theorem dX11_cut_13 : decode cX11_cut 13 = .ok (.aload_n 0, 1) := by decide +kernel
theorem dX11_cut_14 : decode cX11_cut 14 = .ok (.getfield 19, 3) := by decide +kernel
theorem dX11_cut_17 : decode cX11_cut 17 = .ok (.getfield 147, 3) := by decide +kernel
theorem dX11_cut_20 : decode cX11_cut 20 = .ok (.getfield 162, 3) := by decide +kernel
theorem dX11_cut_23 : decode cX11_cut 23 = .ok (.iload_n 1, 1) := by decide +kernel
theorem dX11_cut_24 : decode cX11_cut 24 = .ok (.baload, 1) := by decide +kernel
theorem dX11_cut_25 : decode cX11_cut 25 = .ok (.ifCond .eq 6, 3) := by decide +kernel
theorem dX11_cut_28 : decode cX11_cut 28 = .ok (.bipush (-2), 2) := by decide +kernel
theorem dX11_cut_30 : decode cX11_cut 30 = .ok (.ireturn, 1) := by decide +kernel
theorem dX11_cut_31 : decode cX11_cut 31 = .ok (.aload_n 0, 1) := by decide +kernel
theorem dX11_cut_32 : decode cX11_cut 32 = .ok (.getfield 19, 3) := by decide +kernel
theorem dX11_cut_35 : decode cX11_cut 35 = .ok (.getfield 147, 3) := by decide +kernel
theorem dX11_cut_38 : decode cX11_cut 38 = .ok (.getfield 188, 3) := by decide +kernel
theorem dX11_cut_41 : decode cX11_cut 41 = .ok (.bipush 7, 2) := by decide +kernel
theorem dX11_cut_43 : decode cX11_cut 43 = .ok (.if_icmp .lt 6, 3) := by decide +kernel
theorem dX11_cut_46 : decode cX11_cut 46 = .ok (.bipush (-3), 2) := by decide +kernel
theorem dX11_cut_48 : decode cX11_cut 48 = .ok (.ireturn, 1) := by decide +kernel
theorem dX11_cut_49 : decode cX11_cut 49 = .ok (.aload_n 0, 1) := by decide +kernel
theorem dX11_cut_50 : decode cX11_cut 50 = .ok (.getfield 28, 3) := by decide +kernel
theorem dX11_cut_53 : decode cX11_cut 53 = .ok (.aload_n 0, 1) := by decide +kernel
theorem dX11_cut_54 : decode cX11_cut 54 = .ok (.getfield 19, 3) := by decide +kernel
theorem dX11_cut_57 : decode cX11_cut 57 = .ok (.getfield 147, 3) := by decide +kernel
theorem dX11_cut_60 : decode cX11_cut 60 = .ok (.invokevirtual 184, 3) := by decide +kernel
theorem dX11_cut_63 : decode cX11_cut 63 = .ok (.aload_n 0, 1) := by decide +kernel
theorem dX11_cut_64 : decode cX11_cut 64 = .ok (.getfield 19, 3) := by decide +kernel
theorem dX11_cut_67 : decode cX11_cut 67 = .ok (.getfield 147, 3) := by decide +kernel
theorem dX11_cut_70 : decode cX11_cut 70 = .ok (.iload_n 1, 1) := by decide +kernel
theorem dX11_cut_71 : decode cX11_cut 71 = .ok (.invokevirtual 221, 3) := by decide +kernel
theorem dX11_cut_74 : decode cX11_cut 74 = .ok (.aload_n 0, 1) := by decide +kernel
theorem dX11_cut_75 : decode cX11_cut 75 = .ok (.getfield 19, 3) := by decide +kernel
theorem dX11_cut_78 : decode cX11_cut 78 = .ok (.getfield 147, 3) := by decide +kernel
theorem dX11_cut_81 : decode cX11_cut 81 = .ok (.aload_n 0, 1) := by decide +kernel
theorem dX11_cut_82 : decode cX11_cut 82 = .ok (.getfield 19, 3) := by decide +kernel
theorem dX11_cut_85 : decode cX11_cut 85 = .ok (.getfield 122, 3) := by decide +kernel
theorem dX11_cut_88 : decode cX11_cut 88 = .ok (.getfield 144, 3) := by decide +kernel
theorem dX11_cut_91 : decode cX11_cut 91 = .ok (.iload_n 1, 1) := by decide +kernel
theorem dX11_cut_92 : decode cX11_cut 92 = .ok (.iaload, 1) := by decide +kernel
theorem dX11_cut_93 : decode cX11_cut 93 = .ok (.aload_n 0, 1) := by decide +kernel
theorem dX11_cut_94 : decode cX11_cut 94 = .ok (.getfield 19, 3) := by decide +kernel
theorem dX11_cut_97 : decode cX11_cut 97 = .ok (.getfield 147, 3) := by decide +kernel
theorem dX11_cut_100 : decode cX11_cut 100 = .ok (.getfield 151, 3) := by decide +kernel
theorem dX11_cut_103 : decode cX11_cut 103 = .ok (.iload_n 1, 1) := by decide +kernel
theorem dX11_cut_104 : decode cX11_cut 104 = .ok (.iaload, 1) := by decide +kernel
theorem dX11_cut_105 : decode cX11_cut 105 = .ok (.bipush 9, 2) := by decide +kernel
theorem dX11_cut_107 : decode cX11_cut 107 = .ok (.invokevirtual 200, 3) := by decide +kernel
theorem dX11_cut_110 : decode cX11_cut 110 = .ok (.ireturn, 1) := by decide +kernel
theorem dX11_undo_0 : decode cX11_undo 0 = .ok (.aload_n 0, 1) := by decide +kernel
theorem dX11_undo_1 : decode cX11_undo 1 = .ok (.getfield 28, 3) := by decide +kernel
theorem dX11_undo_4 : decode cX11_undo 4 = .ok (.aload_n 0, 1) := by decide +kernel
theorem dX11_undo_5 : decode cX11_undo 5 = .ok (.getfield 19, 3) := by decide +kernel
theorem dX11_undo_8 : decode cX11_undo 8 = .ok (.getfield 147, 3) := by decide +kernel
theorem dX11_undo_11 : decode cX11_undo 11 = .ok (.invokevirtual 224, 3) := by decide +kernel
theorem dX11_undo_14 : decode cX11_undo 14 = .ok (.ifCond .eq 13, 3) := by decide +kernel
theorem dX11_undo_17 : decode cX11_undo 17 = .ok (.aload_n 0, 1) := by decide +kernel
theorem dX11_undo_18 : decode cX11_undo 18 = .ok (.getfield 28, 3) := by decide +kernel
theorem dX11_undo_21 : decode cX11_undo 21 = .ok (.getfield 228, 3) := by decide +kernel
theorem dX11_undo_24 : decode cX11_undo 24 = .ok (.goto 5, 3) := by decide +kernel
theorem dX11_undo_27 : decode cX11_undo 27 = .ok (.bipush (-2), 2) := by decide +kernel
theorem dX11_undo_29 : decode cX11_undo 29 = .ok (.ireturn, 1) := by decide +kernel
theorem dX11_behind_0 : decode cX11_behind 0 = .ok (.iload_n 1, 1) := by decide +kernel
theorem dX11_behind_1 : decode cX11_behind 1 = .ok (.iconst 0, 1) := by decide +kernel
theorem dX11_behind_2 : decode cX11_behind 2 = .ok (.bipush 60, 2) := by decide +kernel
theorem dX11_behind_4 : decode cX11_behind 4 = .ok (.invokestatic 111, 3) := by decide +kernel
theorem dX11_behind_7 : decode cX11_behind 7 = .ok (.ifCond .eq 23, 3) := by decide +kernel
theorem dX11_behind_10 : decode cX11_behind 10 = .ok (.aload_n 0, 1) := by decide +kernel
theorem dX11_behind_11 : decode cX11_behind 11 = .ok (.getfield 19, 3) := by decide +kernel
theorem dX11_behind_14 : decode cX11_behind 14 = .ok (.iload_n 2, 1) := by decide +kernel
theorem dX11_behind_15 : decode cX11_behind 15 = .ok (.invokevirtual 166, 3) := by decide +kernel
theorem dX11_behind_18 : decode cX11_behind 18 = .ok (.ifCond .eq 12, 3) := by decide +kernel
theorem dX11_behind_21 : decode cX11_behind 21 = .ok (.iload_n 3, 1) := by decide +kernel
theorem dX11_behind_22 : decode cX11_behind 22 = .ok (.iconst 0, 1) := by decide +kernel
theorem dX11_behind_23 : decode cX11_behind 23 = .ok (.iconst 2, 1) := by decide +kernel
theorem dX11_behind_24 : decode cX11_behind 24 = .ok (.invokestatic 111, 3) := by decide +kernel
theorem dX11_behind_27 : decode cX11_behind 27 = .ok (.ifCond .ne 5, 3) := by decide +kernel
theorem dX11_behind_30 : decode cX11_behind 30 = .ok (.iconst (-1), 1) := by decide +kernel
theorem dX11_behind_31 : decode cX11_behind 31 = .ok (.ireturn, 1) := by decide +kernel
theorem dX11_behind_32 : decode cX11_behind 32 = .ok (.aload_n 0, 1) := by decide +kernel
theorem dX11_behind_33 : decode cX11_behind 33 = .ok (.getfield 40, 3) := by decide +kernel
theorem dX11_behind_36 : decode cX11_behind 36 = .ok (.iload_n 2, 1) := by decide +kernel
theorem dX11_behind_37 : decode cX11_behind 37 = .ok (.invokevirtual 191, 3) := by decide +kernel
theorem dX11_behind_40 : decode cX11_behind 40 = .ok (.aload_n 0, 1) := by decide +kernel
theorem dX11_behind_41 : decode cX11_behind 41 = .ok (.getfield 40, 3) := by decide +kernel
theorem dX11_behind_44 : decode cX11_behind 44 = .ok (.iload_n 1, 1) := by decide +kernel
theorem dX11_behind_45 : decode cX11_behind 45 = .ok (.invokevirtual 194, 3) := by decide +kernel
theorem dX11_behind_48 : decode cX11_behind 48 = .ok (.iload_n 3, 1) := by decide +kernel
theorem dX11_behind_49 : decode cX11_behind 49 = .ok (.ifCond .ne 11, 3) := by decide +kernel
theorem dX11_behind_52 : decode cX11_behind 52 = .ok (.aload_n 0, 1) := by decide +kernel
theorem dX11_behind_53 : decode cX11_behind 53 = .ok (.getfield 40, 3) := by decide +kernel
theorem dX11_behind_56 : decode cX11_behind 56 = .ok (.getfield 231, 3) := by decide +kernel
theorem dX11_behind_59 : decode cX11_behind 59 = .ok (.ireturn, 1) := by decide +kernel
theorem dX11_behind_60 : decode cX11_behind 60 = .ok (.iload_n 3, 1) := by decide +kernel
theorem dX11_behind_61 : decode cX11_behind 61 = .ok (.iconst 1, 1) := by decide +kernel
theorem dX11_behind_62 : decode cX11_behind 62 = .ok (.if_icmp .ne 13, 3) := by decide +kernel
theorem dX11_behind_65 : decode cX11_behind 65 = .ok (.aload_n 0, 1) := by decide +kernel
theorem dX11_behind_66 : decode cX11_behind 66 = .ok (.getfield 40, 3) := by decide +kernel
theorem dX11_behind_69 : decode cX11_behind 69 = .ok (.getfield 234, 3) := by decide +kernel
theorem dX11_behind_72 : decode cX11_behind 72 = .ok (.goto 10, 3) := by decide +kernel
theorem dX11_behind_75 : decode cX11_behind 75 = .ok (.aload_n 0, 1) := by decide +kernel
theorem dX11_behind_76 : decode cX11_behind 76 = .ok (.getfield 40, 3) := by decide +kernel
theorem dX11_behind_79 : decode cX11_behind 79 = .ok (.getfield 237, 3) := by decide +kernel
theorem dX11_behind_82 : decode cX11_behind 82 = .ok (.ireturn, 1) := by decide +kernel
theorem dX11_meet_0 : decode cX11_meet 0 = .ok (.aload_n 0, 1) := by decide +kernel
theorem dX11_meet_1 : decode cX11_meet 1 = .ok (.getfield 19, 3) := by decide +kernel
theorem dX11_meet_4 : decode cX11_meet 4 = .ok (.iload_n 1, 1) := by decide +kernel
theorem dX11_meet_5 : decode cX11_meet 5 = .ok (.invokevirtual 166, 3) := by decide +kernel
theorem dX11_meet_8 : decode cX11_meet 8 = .ok (.ifCond .eq 19, 3) := by decide +kernel
theorem dX11_meet_11 : decode cX11_meet 11 = .ok (.aload_n 0, 1) := by decide +kernel
theorem dX11_meet_12 : decode cX11_meet 12 = .ok (.getfield 19, 3) := by decide +kernel
theorem dX11_meet_15 : decode cX11_meet 15 = .ok (.iload_n 2, 1) := by decide +kernel
theorem dX11_meet_16 : decode cX11_meet 16 = .ok (.invokevirtual 166, 3) := by decide +kernel
theorem dX11_meet_19 : decode cX11_meet 19 = .ok (.ifCond .eq 8, 3) := by decide +kernel
theorem dX11_meet_22 : decode cX11_meet 22 = .ok (.iload_n 1, 1) := by decide +kernel
theorem dX11_meet_23 : decode cX11_meet 23 = .ok (.iload_n 2, 1) := by decide +kernel
theorem dX11_meet_24 : decode cX11_meet 24 = .ok (.if_icmp .ne 5, 3) := by decide +kernel
theorem dX11_meet_27 : decode cX11_meet 27 = .ok (.iconst (-1), 1) := by decide +kernel
theorem dX11_meet_28 : decode cX11_meet 28 = .ok (.ireturn, 1) := by decide +kernel
theorem dX11_meet_29 : decode cX11_meet 29 = .ok (.aload_n 0, 1) := by decide +kernel
theorem dX11_meet_30 : decode cX11_meet 30 = .ok (.getfield 40, 3) := by decide +kernel
theorem dX11_meet_33 : decode cX11_meet 33 = .ok (.iload_n 1, 1) := by decide +kernel
theorem dX11_meet_34 : decode cX11_meet 34 = .ok (.invokevirtual 191, 3) := by decide +kernel
theorem dX11_meet_37 : decode cX11_meet 37 = .ok (.aload_n 0, 1) := by decide +kernel
theorem dX11_meet_38 : decode cX11_meet 38 = .ok (.getfield 44, 3) := by decide +kernel
theorem dX11_meet_41 : decode cX11_meet 41 = .ok (.iload_n 2, 1) := by decide +kernel
theorem dX11_meet_42 : decode cX11_meet 42 = .ok (.invokevirtual 191, 3) := by decide +kernel
theorem dX11_meet_45 : decode cX11_meet 45 = .ok (.iconst 0, 1) := by decide +kernel
theorem dX11_meet_46 : decode cX11_meet 46 = .ok (.istore_n 3, 1) := by decide +kernel
theorem dX11_meet_47 : decode cX11_meet 47 = .ok (.iload_n 3, 1) := by decide +kernel
theorem dX11_meet_48 : decode cX11_meet 48 = .ok (.bipush 60, 2) := by decide +kernel
theorem dX11_meet_50 : decode cX11_meet 50 = .ok (.if_icmp .gt 78, 3) := by decide +kernel
theorem dX11_meet_53 : decode cX11_meet 53 = .ok (.aload_n 0, 1) := by decide +kernel
theorem dX11_meet_54 : decode cX11_meet 54 = .ok (.getfield 40, 3) := by decide +kernel
theorem dX11_meet_57 : decode cX11_meet 57 = .ok (.getfield 237, 3) := by decide +kernel
theorem dX11_meet_60 : decode cX11_meet 60 = .ok (.bipush (-4), 2) := by decide +kernel
theorem dX11_meet_62 : decode cX11_meet 62 = .ok (.if_icmp .ne 15, 3) := by decide +kernel
theorem dX11_meet_65 : decode cX11_meet 65 = .ok (.aload_n 0, 1) := by decide +kernel
theorem dX11_meet_66 : decode cX11_meet 66 = .ok (.getfield 44, 3) := by decide +kernel
theorem dX11_meet_69 : decode cX11_meet 69 = .ok (.getfield 237, 3) := by decide +kernel
theorem dX11_meet_72 : decode cX11_meet 72 = .ok (.bipush (-4), 2) := by decide +kernel
theorem dX11_meet_74 : decode cX11_meet 74 = .ok (.if_icmp .eq 6, 3) := by decide +kernel
theorem dX11_meet_77 : decode cX11_meet 77 = .ok (.bipush (-4), 2) := by decide +kernel
theorem dX11_meet_79 : decode cX11_meet 79 = .ok (.ireturn, 1) := by decide +kernel
theorem dX11_meet_80 : decode cX11_meet 80 = .ok (.aload_n 0, 1) := by decide +kernel
theorem dX11_meet_81 : decode cX11_meet 81 = .ok (.getfield 40, 3) := by decide +kernel
theorem dX11_meet_84 : decode cX11_meet 84 = .ok (.aload_n 0, 1) := by decide +kernel
theorem dX11_meet_85 : decode cX11_meet 85 = .ok (.getfield 44, 3) := by decide +kernel
theorem dX11_meet_88 : decode cX11_meet 88 = .ok (.getfield 231, 3) := by decide +kernel
theorem dX11_meet_91 : decode cX11_meet 91 = .ok (.aload_n 0, 1) := by decide +kernel
theorem dX11_meet_92 : decode cX11_meet 92 = .ok (.getfield 44, 3) := by decide +kernel
theorem dX11_meet_95 : decode cX11_meet 95 = .ok (.getfield 234, 3) := by decide +kernel
theorem dX11_meet_98 : decode cX11_meet 98 = .ok (.invokevirtual 240, 3) := by decide +kernel
theorem dX11_meet_101 : decode cX11_meet 101 = .ok (.ifCond .eq 5, 3) := by decide +kernel
theorem dX11_meet_104 : decode cX11_meet 104 = .ok (.iload_n 3, 1) := by decide +kernel
theorem dX11_meet_105 : decode cX11_meet 105 = .ok (.ireturn, 1) := by decide +kernel
theorem dX11_meet_106 : decode cX11_meet 106 = .ok (.aload_n 0, 1) := by decide +kernel
theorem dX11_meet_107 : decode cX11_meet 107 = .ok (.getfield 40, 3) := by decide +kernel
theorem dX11_meet_110 : decode cX11_meet 110 = .ok (.iconst (-1), 1) := by decide +kernel
theorem dX11_meet_111 : decode cX11_meet 111 = .ok (.invokevirtual 244, 3) := by decide +kernel
theorem dX11_meet_114 : decode cX11_meet 114 = .ok (.aload_n 0, 1) := by decide +kernel
theorem dX11_meet_115 : decode cX11_meet 115 = .ok (.getfield 44, 3) := by decide +kernel
theorem dX11_meet_118 : decode cX11_meet 118 = .ok (.iconst (-1), 1) := by decide +kernel
theorem dX11_meet_119 : decode cX11_meet 119 = .ok (.invokevirtual 244, 3) := by decide +kernel
theorem dX11_meet_122 : decode cX11_meet 122 = .ok (.iinc 3 1, 3) := by decide +kernel
theorem dX11_meet_125 : decode cX11_meet 125 = .ok (.goto (-78), 3) := by decide +kernel
theorem dX11_meet_128 : decode cX11_meet 128 = .ok (.bipush (-4), 2) := by decide +kernel
theorem dX11_meet_130 : decode cX11_meet 130 = .ok (.ireturn, 1) := by decide +kernel
theorem dX11_round_0 : decode cX11_round 0 = .ok (.aload_n 0, 1) := by decide +kernel
theorem dX11_round_1 : decode cX11_round 1 = .ok (.getfield 19, 3) := by decide +kernel
theorem dX11_round_4 : decode cX11_round 4 = .ok (.iload_n 1, 1) := by decide +kernel
theorem dX11_round_5 : decode cX11_round 5 = .ok (.invokevirtual 166, 3) := by decide +kernel
theorem dX11_round_8 : decode cX11_round 8 = .ok (.ifCond .ne 5, 3) := by decide +kernel
theorem dX11_round_11 : decode cX11_round 11 = .ok (.iconst (-1), 1) := by decide +kernel
theorem dX11_round_12 : decode cX11_round 12 = .ok (.ireturn, 1) := by decide +kernel
theorem dX11_round_13 : decode cX11_round 13 = .ok (.aload_n 0, 1) := by decide +kernel
theorem dX11_round_14 : decode cX11_round 14 = .ok (.getfield 40, 3) := by decide +kernel
theorem dX11_round_17 : decode cX11_round 17 = .ok (.iload_n 1, 1) := by decide +kernel
theorem dX11_round_18 : decode cX11_round 18 = .ok (.invokevirtual 191, 3) := by decide +kernel
theorem dX11_round_21 : decode cX11_round 21 = .ok (.iconst 0, 1) := by decide +kernel
theorem dX11_round_22 : decode cX11_round 22 = .ok (.istore_n 2, 1) := by decide +kernel
theorem dX11_round_23 : decode cX11_round 23 = .ok (.iload_n 2, 1) := by decide +kernel
theorem dX11_round_24 : decode cX11_round 24 = .ok (.sipush 200, 3) := by decide +kernel
theorem dX11_round_27 : decode cX11_round 27 = .ok (.if_icmp .ge 16, 3) := by decide +kernel
theorem dX11_round_30 : decode cX11_round 30 = .ok (.aload_n 0, 1) := by decide +kernel
theorem dX11_round_31 : decode cX11_round 31 = .ok (.getfield 40, 3) := by decide +kernel
theorem dX11_round_34 : decode cX11_round 34 = .ok (.invokevirtual 247, 3) := by decide +kernel
theorem dX11_round_37 : decode cX11_round 37 = .ok (.iinc 2 1, 3) := by decide +kernel
theorem dX11_round_40 : decode cX11_round 40 = .ok (.goto (-17), 3) := by decide +kernel
theorem dX11_round_43 : decode cX11_round 43 = .ok (.aload_n 0, 1) := by decide +kernel
theorem dX11_round_44 : decode cX11_round 44 = .ok (.getfield 40, 3) := by decide +kernel
theorem dX11_round_47 : decode cX11_round 47 = .ok (.getfield 231, 3) := by decide +kernel
theorem dX11_round_50 : decode cX11_round 50 = .ok (.istore_n 2, 1) := by decide +kernel
theorem dX11_round_51 : decode cX11_round 51 = .ok (.aload_n 0, 1) := by decide +kernel
theorem dX11_round_52 : decode cX11_round 52 = .ok (.getfield 40, 3) := by decide +kernel
theorem dX11_round_55 : decode cX11_round 55 = .ok (.getfield 234, 3) := by decide +kernel
theorem dX11_round_58 : decode cX11_round 58 = .ok (.istore_n 3, 1) := by decide +kernel
theorem dX11_round_59 : decode cX11_round 59 = .ok (.iconst 1, 1) := by decide +kernel
theorem dX11_round_60 : decode cX11_round 60 = .ok (.istore 4, 2) := by decide +kernel
theorem dX11_round_62 : decode cX11_round 62 = .ok (.iload 4, 2) := by decide +kernel
theorem dX11_round_64 : decode cX11_round 64 = .ok (.sipush 200, 3) := by decide +kernel
theorem dX11_round_67 : decode cX11_round 67 = .ok (.if_icmp .gt 31, 3) := by decide +kernel
theorem dX11_round_70 : decode cX11_round 70 = .ok (.aload_n 0, 1) := by decide +kernel
theorem dX11_round_71 : decode cX11_round 71 = .ok (.getfield 40, 3) := by decide +kernel
theorem dX11_round_74 : decode cX11_round 74 = .ok (.invokevirtual 247, 3) := by decide +kernel
theorem dX11_round_77 : decode cX11_round 77 = .ok (.aload_n 0, 1) := by decide +kernel
theorem dX11_round_78 : decode cX11_round 78 = .ok (.getfield 40, 3) := by decide +kernel
theorem dX11_round_81 : decode cX11_round 81 = .ok (.iload_n 2, 1) := by decide +kernel
theorem dX11_round_82 : decode cX11_round 82 = .ok (.iload_n 3, 1) := by decide +kernel
theorem dX11_round_83 : decode cX11_round 83 = .ok (.invokevirtual 240, 3) := by decide +kernel
theorem dX11_round_86 : decode cX11_round 86 = .ok (.ifCond .eq 6, 3) := by decide +kernel
theorem dX11_round_89 : decode cX11_round 89 = .ok (.iload 4, 2) := by decide +kernel
theorem dX11_round_91 : decode cX11_round 91 = .ok (.ireturn, 1) := by decide +kernel
theorem dX11_round_92 : decode cX11_round 92 = .ok (.iinc 4 1, 3) := by decide +kernel
theorem dX11_round_95 : decode cX11_round 95 = .ok (.goto (-33), 3) := by decide +kernel
theorem dX11_round_98 : decode cX11_round 98 = .ok (.bipush (-4), 2) := by decide +kernel
theorem dX11_round_100 : decode cX11_round 100 = .ok (.ireturn, 1) := by decide +kernel
theorem dX11_time_0 : decode cX11_time 0 = .ok (.aload_n 0, 1) := by decide +kernel
theorem dX11_time_1 : decode cX11_time 1 = .ok (.getfield 19, 3) := by decide +kernel
theorem dX11_time_4 : decode cX11_time 4 = .ok (.iload_n 1, 1) := by decide +kernel
theorem dX11_time_5 : decode cX11_time 5 = .ok (.invokevirtual 128, 3) := by decide +kernel
theorem dX11_time_8 : decode cX11_time 8 = .ok (.ifCond .eq 37, 3) := by decide +kernel
theorem dX11_time_11 : decode cX11_time 11 = .ok (.aload_n 0, 1) := by decide +kernel
theorem dX11_time_12 : decode cX11_time 12 = .ok (.getfield 19, 3) := by decide +kernel
theorem dX11_time_15 : decode cX11_time 15 = .ok (.iload_n 2, 1) := by decide +kernel
theorem dX11_time_16 : decode cX11_time 16 = .ok (.invokevirtual 204, 3) := by decide +kernel
theorem dX11_time_19 : decode cX11_time 19 = .ok (.ifCond .eq 26, 3) := by decide +kernel
theorem dX11_time_22 : decode cX11_time 22 = .ok (.aload_n 0, 1) := by decide +kernel
theorem dX11_time_23 : decode cX11_time 23 = .ok (.getfield 19, 3) := by decide +kernel
theorem dX11_time_26 : decode cX11_time 26 = .ok (.iload_n 3, 1) := by decide +kernel
theorem dX11_time_27 : decode cX11_time 27 = .ok (.invokevirtual 128, 3) := by decide +kernel
theorem dX11_time_30 : decode cX11_time 30 = .ok (.ifCond .eq 15, 3) := by decide +kernel
theorem dX11_time_33 : decode cX11_time 33 = .ok (.aload_n 0, 1) := by decide +kernel
theorem dX11_time_34 : decode cX11_time 34 = .ok (.getfield 19, 3) := by decide +kernel
theorem dX11_time_37 : decode cX11_time 37 = .ok (.iload 4, 2) := by decide +kernel
theorem dX11_time_39 : decode cX11_time 39 = .ok (.invokevirtual 204, 3) := by decide +kernel
theorem dX11_time_42 : decode cX11_time 42 = .ok (.ifCond .ne 5, 3) := by decide +kernel
theorem dX11_time_45 : decode cX11_time 45 = .ok (.iconst (-1), 1) := by decide +kernel
theorem dX11_time_46 : decode cX11_time 46 = .ok (.ireturn, 1) := by decide +kernel
theorem dX11_time_47 : decode cX11_time 47 = .ok (.aload_n 0, 1) := by decide +kernel
theorem dX11_time_48 : decode cX11_time 48 = .ok (.getfield 50, 3) := by decide +kernel
theorem dX11_time_51 : decode cX11_time 51 = .ok (.iload_n 1, 1) := by decide +kernel
theorem dX11_time_52 : decode cX11_time 52 = .ok (.iload_n 2, 1) := by decide +kernel
theorem dX11_time_53 : decode cX11_time 53 = .ok (.invokestatic 207, 3) := by decide +kernel
theorem dX11_time_56 : decode cX11_time 56 = .ok (.invokevirtual 250, 3) := by decide +kernel
theorem dX11_time_59 : decode cX11_time 59 = .ok (.iload_n 3, 1) := by decide +kernel
theorem dX11_time_60 : decode cX11_time 60 = .ok (.iload 4, 2) := by decide +kernel
theorem dX11_time_62 : decode cX11_time 62 = .ok (.invokestatic 207, 3) := by decide +kernel
theorem dX11_time_65 : decode cX11_time 65 = .ok (.invokevirtual 254, 3) := by decide +kernel
theorem dX11_time_68 : decode cX11_time 68 = .ok (.istore 5, 2) := by decide +kernel
theorem dX11_time_70 : decode cX11_time 70 = .ok (.iload 5, 2) := by decide +kernel
theorem dX11_time_72 : decode cX11_time 72 = .ok (.ldc_w 260, 3) := by decide +kernel
theorem dX11_time_75 : decode cX11_time 75 = .ok (.if_icmp .ge 8, 3) := by decide +kernel
theorem dX11_time_78 : decode cX11_time 78 = .ok (.iload 5, 2) := by decide +kernel
theorem dX11_time_80 : decode cX11_time 80 = .ok (.goto 5, 3) := by decide +kernel
theorem dX11_time_83 : decode cX11_time 83 = .ok (.bipush (-4), 2) := by decide +kernel
theorem dX11_time_85 : decode cX11_time 85 = .ok (.ireturn, 1) := by decide +kernel
theorem dX11_hears_0 : decode cX11_hears 0 = .ok (.aload_n 0, 1) := by decide +kernel
theorem dX11_hears_1 : decode cX11_hears 1 = .ok (.getfield 19, 3) := by decide +kernel
theorem dX11_hears_4 : decode cX11_hears 4 = .ok (.iload_n 1, 1) := by decide +kernel
theorem dX11_hears_5 : decode cX11_hears 5 = .ok (.invokevirtual 141, 3) := by decide +kernel
theorem dX11_hears_8 : decode cX11_hears 8 = .ok (.ifCond .eq 13, 3) := by decide +kernel
theorem dX11_hears_11 : decode cX11_hears 11 = .ok (.iload_n 2, 1) := by decide +kernel
theorem dX11_hears_12 : decode cX11_hears 12 = .ok (.iconst 0, 1) := by decide +kernel
theorem dX11_hears_13 : decode cX11_hears 13 = .ok (.bipush 99, 2) := by decide +kernel
theorem dX11_hears_15 : decode cX11_hears 15 = .ok (.invokestatic 111, 3) := by decide +kernel
theorem dX11_hears_18 : decode cX11_hears 18 = .ok (.ifCond .ne 5, 3) := by decide +kernel
theorem dX11_hears_21 : decode cX11_hears 21 = .ok (.iconst (-1), 1) := by decide +kernel
theorem dX11_hears_22 : decode cX11_hears 22 = .ok (.ireturn, 1) := by decide +kernel
theorem dX11_hears_23 : decode cX11_hears 23 = .ok (.aload_n 0, 1) := by decide +kernel
theorem dX11_hears_24 : decode cX11_hears 24 = .ok (.getfield 19, 3) := by decide +kernel
theorem dX11_hears_27 : decode cX11_hears 27 = .ok (.getfield 147, 3) := by decide +kernel
theorem dX11_hears_30 : decode cX11_hears 30 = .ok (.getfield 162, 3) := by decide +kernel
theorem dX11_hears_33 : decode cX11_hears 33 = .ok (.iload_n 1, 1) := by decide +kernel
theorem dX11_hears_34 : decode cX11_hears 34 = .ok (.baload, 1) := by decide +kernel
theorem dX11_hears_35 : decode cX11_hears 35 = .ok (.ifCond .eq 6, 3) := by decide +kernel
theorem dX11_hears_38 : decode cX11_hears 38 = .ok (.bipush (-2), 2) := by decide +kernel
theorem dX11_hears_40 : decode cX11_hears 40 = .ok (.ireturn, 1) := by decide +kernel
theorem dX11_hears_41 : decode cX11_hears 41 = .ok (.aload_n 0, 1) := by decide +kernel
theorem dX11_hears_42 : decode cX11_hears 42 = .ok (.getfield 50, 3) := by decide +kernel
theorem dX11_hears_45 : decode cX11_hears 45 = .ok (.aload_n 0, 1) := by decide +kernel
theorem dX11_hears_46 : decode cX11_hears 46 = .ok (.getfield 19, 3) := by decide +kernel
theorem dX11_hears_49 : decode cX11_hears 49 = .ok (.iload_n 1, 1) := by decide +kernel
theorem dX11_hears_50 : decode cX11_hears 50 = .ok (.invokevirtual 261, 3) := by decide +kernel
theorem dX11_hears_53 : decode cX11_hears 53 = .ok (.invokevirtual 250, 3) := by decide +kernel
theorem dX11_hears_56 : decode cX11_hears 56 = .ok (.astore_n 3, 1) := by decide +kernel
theorem dX11_hears_57 : decode cX11_hears 57 = .ok (.iconst 0, 1) := by decide +kernel
theorem dX11_hears_58 : decode cX11_hears 58 = .ok (.istore 4, 2) := by decide +kernel
theorem dX11_hears_60 : decode cX11_hears 60 = .ok (.iconst 0, 1) := by decide +kernel
theorem dX11_hears_61 : decode cX11_hears 61 = .ok (.istore 5, 2) := by decide +kernel
theorem dX11_hears_63 : decode cX11_hears 63 = .ok (.iload 5, 2) := by decide +kernel
theorem dX11_hears_65 : decode cX11_hears 65 = .ok (.aload_n 0, 1) := by decide +kernel
theorem dX11_hears_66 : decode cX11_hears 66 = .ok (.getfield 19, 3) := by decide +kernel
theorem dX11_hears_69 : decode cX11_hears 69 = .ok (.getfield 122, 3) := by decide +kernel
theorem dX11_hears_72 : decode cX11_hears 72 = .ok (.getfield 264, 3) := by decide +kernel
theorem dX11_hears_75 : decode cX11_hears 75 = .ok (.if_icmp .ge 60, 3) := by decide +kernel
theorem dX11_hears_78 : decode cX11_hears 78 = .ok (.iload 5, 2) := by decide +kernel
theorem dX11_hears_80 : decode cX11_hears 80 = .ok (.iload_n 1, 1) := by decide +kernel
theorem dX11_hears_81 : decode cX11_hears 81 = .ok (.if_icmp .eq 48, 3) := by decide +kernel
theorem dX11_hears_84 : decode cX11_hears 84 = .ok (.aload_n 0, 1) := by decide +kernel
theorem dX11_hears_85 : decode cX11_hears 85 = .ok (.getfield 19, 3) := by decide +kernel
theorem dX11_hears_88 : decode cX11_hears 88 = .ok (.getfield 147, 3) := by decide +kernel
theorem dX11_hears_91 : decode cX11_hears 91 = .ok (.getfield 162, 3) := by decide +kernel
theorem dX11_hears_94 : decode cX11_hears 94 = .ok (.iload 5, 2) := by decide +kernel
theorem dX11_hears_96 : decode cX11_hears 96 = .ok (.baload, 1) := by decide +kernel
theorem dX11_hears_97 : decode cX11_hears 97 = .ok (.ifCond .eq 6, 3) := by decide +kernel
theorem dX11_hears_100 : decode cX11_hears 100 = .ok (.goto 29, 3) := by decide +kernel
theorem dX11_hears_103 : decode cX11_hears 103 = .ok (.aload_n 3, 1) := by decide +kernel
theorem dX11_hears_104 : decode cX11_hears 104 = .ok (.aload_n 0, 1) := by decide +kernel
theorem dX11_hears_105 : decode cX11_hears 105 = .ok (.getfield 19, 3) := by decide +kernel
theorem dX11_hears_108 : decode cX11_hears 108 = .ok (.iload 5, 2) := by decide +kernel
theorem dX11_hears_110 : decode cX11_hears 110 = .ok (.invokevirtual 261, 3) := by decide +kernel
theorem dX11_hears_113 : decode cX11_hears 113 = .ok (.invokevirtual 254, 3) := by decide +kernel
theorem dX11_hears_116 : decode cX11_hears 116 = .ok (.iload_n 2, 1) := by decide +kernel
theorem dX11_hears_117 : decode cX11_hears 117 = .ok (.if_icmp .gt 12, 3) := by decide +kernel
theorem dX11_hears_120 : decode cX11_hears 120 = .ok (.iload 4, 2) := by decide +kernel
theorem dX11_hears_122 : decode cX11_hears 122 = .ok (.iconst 1, 1) := by decide +kernel
theorem dX11_hears_123 : decode cX11_hears 123 = .ok (.iload 5, 2) := by decide +kernel
theorem dX11_hears_125 : decode cX11_hears 125 = .ok (.ishl, 1) := by decide +kernel
theorem dX11_hears_126 : decode cX11_hears 126 = .ok (.ior, 1) := by decide +kernel
theorem dX11_hears_127 : decode cX11_hears 127 = .ok (.istore 4, 2) := by decide +kernel
theorem dX11_hears_129 : decode cX11_hears 129 = .ok (.iinc 5 1, 3) := by decide +kernel
theorem dX11_hears_132 : decode cX11_hears 132 = .ok (.goto (-69), 3) := by decide +kernel
theorem dX11_hears_135 : decode cX11_hears 135 = .ok (.iload 4, 2) := by decide +kernel
theorem dX11_hears_137 : decode cX11_hears 137 = .ok (.ireturn, 1) := by decide +kernel
theorem dX11_shadow_0 : decode cX11_shadow 0 = .ok (.aload_n 0, 1) := by decide +kernel
theorem dX11_shadow_1 : decode cX11_shadow 1 = .ok (.getfield 19, 3) := by decide +kernel
theorem dX11_shadow_4 : decode cX11_shadow 4 = .ok (.iload_n 1, 1) := by decide +kernel
theorem dX11_shadow_5 : decode cX11_shadow 5 = .ok (.invokevirtual 141, 3) := by decide +kernel
theorem dX11_shadow_8 : decode cX11_shadow 8 = .ok (.ifCond .ne 5, 3) := by decide +kernel
theorem dX11_shadow_11 : decode cX11_shadow 11 = .ok (.iconst (-1), 1) := by decide +kernel
theorem dX11_shadow_12 : decode cX11_shadow 12 = .ok (.ireturn, 1) := by decide +kernel
theorem dX11_shadow_13 : decode cX11_shadow 13 = .ok (.aload_n 0, 1) := by decide +kernel
theorem dX11_shadow_14 : decode cX11_shadow 14 = .ok (.getfield 19, 3) := by decide +kernel
theorem dX11_shadow_17 : decode cX11_shadow 17 = .ok (.getfield 147, 3) := by decide +kernel
theorem dX11_shadow_20 : decode cX11_shadow 20 = .ok (.getfield 162, 3) := by decide +kernel
theorem dX11_shadow_23 : decode cX11_shadow 23 = .ok (.iload_n 1, 1) := by decide +kernel
theorem dX11_shadow_24 : decode cX11_shadow 24 = .ok (.baload, 1) := by decide +kernel
theorem dX11_shadow_25 : decode cX11_shadow 25 = .ok (.ifCond .eq 6, 3) := by decide +kernel
theorem dX11_shadow_28 : decode cX11_shadow 28 = .ok (.bipush (-2), 2) := by decide +kernel
theorem dX11_shadow_30 : decode cX11_shadow 30 = .ok (.ireturn, 1) := by decide +kernel
theorem dX11_shadow_31 : decode cX11_shadow 31 = .ok (.aload_n 0, 1) := by decide +kernel
theorem dX11_shadow_32 : decode cX11_shadow 32 = .ok (.getfield 50, 3) := by decide +kernel
theorem dX11_shadow_35 : decode cX11_shadow 35 = .ok (.aload_n 0, 1) := by decide +kernel
theorem dX11_shadow_36 : decode cX11_shadow 36 = .ok (.getfield 19, 3) := by decide +kernel
theorem dX11_shadow_39 : decode cX11_shadow 39 = .ok (.iload_n 1, 1) := by decide +kernel
theorem dX11_shadow_40 : decode cX11_shadow 40 = .ok (.invokevirtual 261, 3) := by decide +kernel
theorem dX11_shadow_43 : decode cX11_shadow 43 = .ok (.invokevirtual 250, 3) := by decide +kernel
theorem dX11_shadow_46 : decode cX11_shadow 46 = .ok (.astore_n 2, 1) := by decide +kernel
theorem dX11_shadow_47 : decode cX11_shadow 47 = .ok (.iconst 0, 1) := by decide +kernel
theorem dX11_shadow_48 : decode cX11_shadow 48 = .ok (.istore_n 3, 1) := by decide +kernel
theorem dX11_shadow_49 : decode cX11_shadow 49 = .ok (.iconst 0, 1) := by decide +kernel
theorem dX11_shadow_50 : decode cX11_shadow 50 = .ok (.istore 4, 2) := by decide +kernel
theorem dX11_shadow_52 : decode cX11_shadow 52 = .ok (.iload 4, 2) := by decide +kernel
theorem dX11_shadow_54 : decode cX11_shadow 54 = .ok (.aload_n 0, 1) := by decide +kernel
theorem dX11_shadow_55 : decode cX11_shadow 55 = .ok (.getfield 19, 3) := by decide +kernel
theorem dX11_shadow_58 : decode cX11_shadow 58 = .ok (.getfield 122, 3) := by decide +kernel
theorem dX11_shadow_61 : decode cX11_shadow 61 = .ok (.getfield 125, 3) := by decide +kernel
theorem dX11_shadow_64 : decode cX11_shadow 64 = .ok (.if_icmp .ge 69, 3) := by decide +kernel
theorem dX11_shadow_67 : decode cX11_shadow 67 = .ok (.iconst 0, 1) := by decide +kernel
theorem dX11_shadow_68 : decode cX11_shadow 68 = .ok (.istore 5, 2) := by decide +kernel
theorem dX11_shadow_70 : decode cX11_shadow 70 = .ok (.iload 5, 2) := by decide +kernel
theorem dX11_shadow_72 : decode cX11_shadow 72 = .ok (.aload_n 0, 1) := by decide +kernel
theorem dX11_shadow_73 : decode cX11_shadow 73 = .ok (.getfield 19, 3) := by decide +kernel
theorem dX11_shadow_76 : decode cX11_shadow 76 = .ok (.getfield 122, 3) := by decide +kernel
theorem dX11_shadow_79 : decode cX11_shadow 79 = .ok (.getfield 267, 3) := by decide +kernel
theorem dX11_shadow_82 : decode cX11_shadow 82 = .ok (.if_icmp .ge 45, 3) := by decide +kernel
theorem dX11_shadow_85 : decode cX11_shadow 85 = .ok (.iload 4, 2) := by decide +kernel
theorem dX11_shadow_87 : decode cX11_shadow 87 = .ok (.iload 5, 2) := by decide +kernel
theorem dX11_shadow_89 : decode cX11_shadow 89 = .ok (.invokestatic 207, 3) := by decide +kernel
theorem dX11_shadow_92 : decode cX11_shadow 92 = .ok (.istore 6, 2) := by decide +kernel
theorem dX11_shadow_94 : decode cX11_shadow 94 = .ok (.aload_n 0, 1) := by decide +kernel
theorem dX11_shadow_95 : decode cX11_shadow 95 = .ok (.getfield 50, 3) := by decide +kernel
theorem dX11_shadow_98 : decode cX11_shadow 98 = .ok (.iload 6, 2) := by decide +kernel
theorem dX11_shadow_100 : decode cX11_shadow 100 = .ok (.invokevirtual 211, 3) := by decide +kernel
theorem dX11_shadow_103 : decode cX11_shadow 103 = .ok (.ifCond .eq 18, 3) := by decide +kernel
theorem dX11_shadow_106 : decode cX11_shadow 106 = .ok (.aload_n 2, 1) := by decide +kernel
theorem dX11_shadow_107 : decode cX11_shadow 107 = .ok (.iload 6, 2) := by decide +kernel
theorem dX11_shadow_109 : decode cX11_shadow 109 = .ok (.invokevirtual 254, 3) := by decide +kernel
theorem dX11_shadow_112 : decode cX11_shadow 112 = .ok (.ldc_w 260, 3) := by decide +kernel
theorem dX11_shadow_115 : decode cX11_shadow 115 = .ok (.if_icmp .lt 6, 3) := by decide +kernel
theorem dX11_shadow_118 : decode cX11_shadow 118 = .ok (.iinc 3 1, 3) := by decide +kernel
theorem dX11_shadow_121 : decode cX11_shadow 121 = .ok (.iinc 5 1, 3) := by decide +kernel
theorem dX11_shadow_124 : decode cX11_shadow 124 = .ok (.goto (-54), 3) := by decide +kernel
theorem dX11_shadow_127 : decode cX11_shadow 127 = .ok (.iinc 4 1, 3) := by decide +kernel
theorem dX11_shadow_130 : decode cX11_shadow 130 = .ok (.goto (-78), 3) := by decide +kernel
theorem dX11_shadow_133 : decode cX11_shadow 133 = .ok (.iload_n 3, 1) := by decide +kernel
theorem dX11_shadow_134 : decode cX11_shadow 134 = .ok (.ireturn, 1) := by decide +kernel
theorem dX11_heard_0 : decode cX11_heard 0 = .ok (.aload_n 0, 1) := by decide +kernel
theorem dX11_heard_1 : decode cX11_heard 1 = .ok (.getfield 19, 3) := by decide +kernel
theorem dX11_heard_4 : decode cX11_heard 4 = .ok (.iload_n 1, 1) := by decide +kernel
theorem dX11_heard_5 : decode cX11_heard 5 = .ok (.invokevirtual 141, 3) := by decide +kernel
theorem dX11_heard_8 : decode cX11_heard 8 = .ok (.ifCond .eq 13, 3) := by decide +kernel
theorem dX11_heard_11 : decode cX11_heard 11 = .ok (.iload_n 2, 1) := by decide +kernel
theorem dX11_heard_12 : decode cX11_heard 12 = .ok (.iconst 0, 1) := by decide +kernel
theorem dX11_heard_13 : decode cX11_heard 13 = .ok (.bipush 99, 2) := by decide +kernel
theorem dX11_heard_15 : decode cX11_heard 15 = .ok (.invokestatic 111, 3) := by decide +kernel
theorem dX11_heard_18 : decode cX11_heard 18 = .ok (.ifCond .ne 5, 3) := by decide +kernel
theorem dX11_heard_21 : decode cX11_heard 21 = .ok (.iconst (-1), 1) := by decide +kernel
theorem dX11_heard_22 : decode cX11_heard 22 = .ok (.ireturn, 1) := by decide +kernel
theorem dX11_heard_23 : decode cX11_heard 23 = .ok (.aload_n 0, 1) := by decide +kernel
theorem dX11_heard_24 : decode cX11_heard 24 = .ok (.getfield 19, 3) := by decide +kernel
theorem dX11_heard_27 : decode cX11_heard 27 = .ok (.getfield 147, 3) := by decide +kernel
theorem dX11_heard_30 : decode cX11_heard 30 = .ok (.getfield 162, 3) := by decide +kernel
theorem dX11_heard_33 : decode cX11_heard 33 = .ok (.iload_n 1, 1) := by decide +kernel
theorem dX11_heard_34 : decode cX11_heard 34 = .ok (.baload, 1) := by decide +kernel
theorem dX11_heard_35 : decode cX11_heard 35 = .ok (.ifCond .eq 6, 3) := by decide +kernel
theorem dX11_heard_38 : decode cX11_heard 38 = .ok (.bipush (-2), 2) := by decide +kernel
theorem dX11_heard_40 : decode cX11_heard 40 = .ok (.ireturn, 1) := by decide +kernel
theorem dX11_heard_41 : decode cX11_heard 41 = .ok (.aload_n 0, 1) := by decide +kernel
theorem dX11_heard_42 : decode cX11_heard 42 = .ok (.getfield 59, 3) := by decide +kernel
theorem dX11_heard_45 : decode cX11_heard 45 = .ok (.iload_n 1, 1) := by decide +kernel
theorem dX11_heard_46 : decode cX11_heard 46 = .ok (.iload_n 2, 1) := by decide +kernel
theorem dX11_heard_47 : decode cX11_heard 47 = .ok (.invokevirtual 270, 3) := by decide +kernel
theorem dX11_heard_50 : decode cX11_heard 50 = .ok (.ifCond .ne 6, 3) := by decide +kernel
theorem dX11_heard_53 : decode cX11_heard 53 = .ok (.bipush (-3), 2) := by decide +kernel
theorem dX11_heard_55 : decode cX11_heard 55 = .ok (.ireturn, 1) := by decide +kernel
theorem dX11_heard_56 : decode cX11_heard 56 = .ok (.aload_n 0, 1) := by decide +kernel
theorem dX11_heard_57 : decode cX11_heard 57 = .ok (.getfield 59, 3) := by decide +kernel
theorem dX11_heard_60 : decode cX11_heard 60 = .ok (.getfield 272, 3) := by decide +kernel
theorem dX11_heard_63 : decode cX11_heard 63 = .ok (.ireturn, 1) := by decide +kernel
theorem dX11_hush_0 : decode cX11_hush 0 = .ok (.aload_n 0, 1) := by decide +kernel
theorem dX11_hush_1 : decode cX11_hush 1 = .ok (.getfield 59, 3) := by decide +kernel
theorem dX11_hush_4 : decode cX11_hush 4 = .ok (.invokevirtual 273, 3) := by decide +kernel
theorem dX11_hush_7 : decode cX11_hush 7 = .ok (.ireturn, 1) := by decide +kernel
theorem dX11_whence_0 : decode cX11_whence 0 = .ok (.iload_n 1, 1) := by decide +kernel
theorem dX11_whence_1 : decode cX11_whence 1 = .ok (.iconst 0, 1) := by decide +kernel
theorem dX11_whence_2 : decode cX11_whence 2 = .ok (.iconst 1, 1) := by decide +kernel
theorem dX11_whence_3 : decode cX11_whence 3 = .ok (.invokestatic 111, 3) := by decide +kernel
theorem dX11_whence_6 : decode cX11_whence 6 = .ok (.ifCond .ne 5, 3) := by decide +kernel
theorem dX11_whence_9 : decode cX11_whence 9 = .ok (.iconst (-1), 1) := by decide +kernel
theorem dX11_whence_10 : decode cX11_whence 10 = .ok (.ireturn, 1) := by decide +kernel
theorem dX11_whence_11 : decode cX11_whence 11 = .ok (.aload_n 0, 1) := by decide +kernel
theorem dX11_whence_12 : decode cX11_whence 12 = .ok (.getfield 59, 3) := by decide +kernel
theorem dX11_whence_15 : decode cX11_whence 15 = .ok (.invokevirtual 274, 3) := by decide +kernel
theorem dX11_whence_18 : decode cX11_whence 18 = .ok (.iload_n 1, 1) := by decide +kernel
theorem dX11_whence_19 : decode cX11_whence 19 = .ok (.ifCond .ne 13, 3) := by decide +kernel
theorem dX11_whence_22 : decode cX11_whence 22 = .ok (.aload_n 0, 1) := by decide +kernel
theorem dX11_whence_23 : decode cX11_whence 23 = .ok (.getfield 59, 3) := by decide +kernel
theorem dX11_whence_26 : decode cX11_whence 26 = .ok (.getfield 277, 3) := by decide +kernel
theorem dX11_whence_29 : decode cX11_whence 29 = .ok (.goto 10, 3) := by decide +kernel
theorem dX11_whence_32 : decode cX11_whence 32 = .ok (.aload_n 0, 1) := by decide +kernel
theorem dX11_whence_33 : decode cX11_whence 33 = .ok (.getfield 59, 3) := by decide +kernel
theorem dX11_whence_36 : decode cX11_whence 36 = .ok (.getfield 280, 3) := by decide +kernel
theorem dX11_whence_39 : decode cX11_whence 39 = .ok (.ireturn, 1) := by decide +kernel
theorem dX11_moved_0 : decode cX11_moved 0 = .ok (.iload_n 1, 1) := by decide +kernel
theorem dX11_moved_1 : decode cX11_moved 1 = .ok (.iconst 0, 1) := by decide +kernel
theorem dX11_moved_2 : decode cX11_moved 2 = .ok (.bipush 99, 2) := by decide +kernel
theorem dX11_moved_4 : decode cX11_moved 4 = .ok (.invokestatic 111, 3) := by decide +kernel
theorem dX11_moved_7 : decode cX11_moved 7 = .ok (.ifCond .eq 12, 3) := by decide +kernel
theorem dX11_moved_10 : decode cX11_moved 10 = .ok (.iload_n 2, 1) := by decide +kernel
theorem dX11_moved_11 : decode cX11_moved 11 = .ok (.iconst 0, 1) := by decide +kernel
theorem dX11_moved_12 : decode cX11_moved 12 = .ok (.iconst 2, 1) := by decide +kernel
theorem dX11_moved_13 : decode cX11_moved 13 = .ok (.invokestatic 111, 3) := by decide +kernel
theorem dX11_moved_16 : decode cX11_moved 16 = .ok (.ifCond .ne 5, 3) := by decide +kernel
theorem dX11_moved_19 : decode cX11_moved 19 = .ok (.iconst (-1), 1) := by decide +kernel
theorem dX11_moved_20 : decode cX11_moved 20 = .ok (.ireturn, 1) := by decide +kernel
theorem dX11_moved_21 : decode cX11_moved 21 = .ok (.aload_n 0, 1) := by decide +kernel
theorem dX11_moved_22 : decode cX11_moved 22 = .ok (.getfield 66, 3) := by decide +kernel
theorem dX11_moved_25 : decode cX11_moved 25 = .ok (.iload_n 1, 1) := by decide +kernel
theorem dX11_moved_26 : decode cX11_moved 26 = .ok (.invokevirtual 283, 3) := by decide +kernel
theorem dX11_moved_29 : decode cX11_moved 29 = .ok (.iload_n 2, 1) := by decide +kernel
theorem dX11_moved_30 : decode cX11_moved 30 = .ok (.ifCond .ne 11, 3) := by decide +kernel
theorem dX11_moved_33 : decode cX11_moved 33 = .ok (.aload_n 0, 1) := by decide +kernel
theorem dX11_moved_34 : decode cX11_moved 34 = .ok (.getfield 66, 3) := by decide +kernel
theorem dX11_moved_37 : decode cX11_moved 37 = .ok (.getfield 285, 3) := by decide +kernel
theorem dX11_moved_40 : decode cX11_moved 40 = .ok (.ireturn, 1) := by decide +kernel
theorem dX11_moved_41 : decode cX11_moved 41 = .ok (.iload_n 2, 1) := by decide +kernel
theorem dX11_moved_42 : decode cX11_moved 42 = .ok (.iconst 1, 1) := by decide +kernel
theorem dX11_moved_43 : decode cX11_moved 43 = .ok (.if_icmp .ne 13, 3) := by decide +kernel
theorem dX11_moved_46 : decode cX11_moved 46 = .ok (.aload_n 0, 1) := by decide +kernel
theorem dX11_moved_47 : decode cX11_moved 47 = .ok (.getfield 66, 3) := by decide +kernel
theorem dX11_moved_50 : decode cX11_moved 50 = .ok (.getfield 288, 3) := by decide +kernel
theorem dX11_moved_53 : decode cX11_moved 53 = .ok (.goto 10, 3) := by decide +kernel
theorem dX11_moved_56 : decode cX11_moved 56 = .ok (.aload_n 0, 1) := by decide +kernel
theorem dX11_moved_57 : decode cX11_moved 57 = .ok (.getfield 66, 3) := by decide +kernel
theorem dX11_moved_60 : decode cX11_moved 60 = .ok (.getfield 291, 3) := by decide +kernel
theorem dX11_moved_63 : decode cX11_moved 63 = .ok (.ireturn, 1) := by decide +kernel
theorem dX11_sent_0 : decode cX11_sent 0 = .ok (.aload_n 0, 1) := by decide +kernel
theorem dX11_sent_1 : decode cX11_sent 1 = .ok (.getfield 19, 3) := by decide +kernel
theorem dX11_sent_4 : decode cX11_sent 4 = .ok (.iload_n 1, 1) := by decide +kernel
theorem dX11_sent_5 : decode cX11_sent 5 = .ok (.invokevirtual 141, 3) := by decide +kernel
theorem dX11_sent_8 : decode cX11_sent 8 = .ok (.ifCond .eq 28, 3) := by decide +kernel
theorem dX11_sent_11 : decode cX11_sent 11 = .ok (.aload_n 0, 1) := by decide +kernel
theorem dX11_sent_12 : decode cX11_sent 12 = .ok (.getfield 19, 3) := by decide +kernel
theorem dX11_sent_15 : decode cX11_sent 15 = .ok (.iload_n 2, 1) := by decide +kernel
theorem dX11_sent_16 : decode cX11_sent 16 = .ok (.invokevirtual 141, 3) := by decide +kernel
theorem dX11_sent_19 : decode cX11_sent 19 = .ok (.ifCond .eq 17, 3) := by decide +kernel
theorem dX11_sent_22 : decode cX11_sent 22 = .ok (.iload_n 1, 1) := by decide +kernel
theorem dX11_sent_23 : decode cX11_sent 23 = .ok (.iload_n 2, 1) := by decide +kernel
theorem dX11_sent_24 : decode cX11_sent 24 = .ok (.if_icmp .eq 12, 3) := by decide +kernel
theorem dX11_sent_27 : decode cX11_sent 27 = .ok (.iload_n 3, 1) := by decide +kernel
theorem dX11_sent_28 : decode cX11_sent 28 = .ok (.iconst 0, 1) := by decide +kernel
theorem dX11_sent_29 : decode cX11_sent 29 = .ok (.iconst 1, 1) := by decide +kernel
theorem dX11_sent_30 : decode cX11_sent 30 = .ok (.invokestatic 111, 3) := by decide +kernel
theorem dX11_sent_33 : decode cX11_sent 33 = .ok (.ifCond .ne 5, 3) := by decide +kernel
theorem dX11_sent_36 : decode cX11_sent 36 = .ok (.iconst (-1), 1) := by decide +kernel
theorem dX11_sent_37 : decode cX11_sent 37 = .ok (.ireturn, 1) := by decide +kernel
theorem dX11_sent_38 : decode cX11_sent 38 = .ok (.aload_n 0, 1) := by decide +kernel
theorem dX11_sent_39 : decode cX11_sent 39 = .ok (.getfield 19, 3) := by decide +kernel
theorem dX11_sent_42 : decode cX11_sent 42 = .ok (.getfield 147, 3) := by decide +kernel
theorem dX11_sent_45 : decode cX11_sent 45 = .ok (.getfield 162, 3) := by decide +kernel
theorem dX11_sent_48 : decode cX11_sent 48 = .ok (.iload_n 1, 1) := by decide +kernel
theorem dX11_sent_49 : decode cX11_sent 49 = .ok (.baload, 1) := by decide +kernel
theorem dX11_sent_50 : decode cX11_sent 50 = .ok (.ifCond .ne 18, 3) := by decide +kernel
theorem dX11_sent_53 : decode cX11_sent 53 = .ok (.aload_n 0, 1) := by decide +kernel
theorem dX11_sent_54 : decode cX11_sent 54 = .ok (.getfield 19, 3) := by decide +kernel
theorem dX11_sent_57 : decode cX11_sent 57 = .ok (.getfield 147, 3) := by decide +kernel
theorem dX11_sent_60 : decode cX11_sent 60 = .ok (.getfield 162, 3) := by decide +kernel
theorem dX11_sent_63 : decode cX11_sent 63 = .ok (.iload_n 2, 1) := by decide +kernel
theorem dX11_sent_64 : decode cX11_sent 64 = .ok (.baload, 1) := by decide +kernel
theorem dX11_sent_65 : decode cX11_sent 65 = .ok (.ifCond .eq 6, 3) := by decide +kernel
theorem dX11_sent_68 : decode cX11_sent 68 = .ok (.bipush (-2), 2) := by decide +kernel
theorem dX11_sent_70 : decode cX11_sent 70 = .ok (.ireturn, 1) := by decide +kernel
theorem dX11_sent_71 : decode cX11_sent 71 = .ok (.bipush (-4), 2) := by decide +kernel
theorem dX11_sent_73 : decode cX11_sent 73 = .ok (.istore 4, 2) := by decide +kernel
theorem dX11_sent_75 : decode cX11_sent 75 = .ok (.bipush 61, 2) := by decide +kernel
theorem dX11_sent_77 : decode cX11_sent 77 = .ok (.istore 5, 2) := by decide +kernel
theorem dX11_sent_79 : decode cX11_sent 79 = .ok (.iconst 0, 1) := by decide +kernel
theorem dX11_sent_80 : decode cX11_sent 80 = .ok (.istore 6, 2) := by decide +kernel
theorem dX11_sent_82 : decode cX11_sent 82 = .ok (.iload 6, 2) := by decide +kernel
theorem dX11_sent_84 : decode cX11_sent 84 = .ok (.bipush 9, 2) := by decide +kernel
theorem dX11_sent_86 : decode cX11_sent 86 = .ok (.if_icmp .gt 78, 3) := by decide +kernel
theorem dX11_sent_89 : decode cX11_sent 89 = .ok (.aload_n 0, 1) := by decide +kernel
theorem dX11_sent_90 : decode cX11_sent 90 = .ok (.getfield 40, 3) := by decide +kernel
theorem dX11_sent_93 : decode cX11_sent 93 = .ok (.aload_n 0, 1) := by decide +kernel
theorem dX11_sent_94 : decode cX11_sent 94 = .ok (.getfield 19, 3) := by decide +kernel
theorem dX11_sent_97 : decode cX11_sent 97 = .ok (.getfield 122, 3) := by decide +kernel
theorem dX11_sent_100 : decode cX11_sent 100 = .ok (.getfield 144, 3) := by decide +kernel
theorem dX11_sent_103 : decode cX11_sent 103 = .ok (.iload_n 1, 1) := by decide +kernel
theorem dX11_sent_104 : decode cX11_sent 104 = .ok (.iaload, 1) := by decide +kernel
theorem dX11_sent_105 : decode cX11_sent 105 = .ok (.aload_n 0, 1) := by decide +kernel
theorem dX11_sent_106 : decode cX11_sent 106 = .ok (.getfield 19, 3) := by decide +kernel
theorem dX11_sent_109 : decode cX11_sent 109 = .ok (.getfield 147, 3) := by decide +kernel
theorem dX11_sent_112 : decode cX11_sent 112 = .ok (.getfield 151, 3) := by decide +kernel
theorem dX11_sent_115 : decode cX11_sent 115 = .ok (.iload_n 1, 1) := by decide +kernel
theorem dX11_sent_116 : decode cX11_sent 116 = .ok (.iaload, 1) := by decide +kernel
theorem dX11_sent_117 : decode cX11_sent 117 = .ok (.iload 6, 2) := by decide +kernel
theorem dX11_sent_119 : decode cX11_sent 119 = .ok (.invokevirtual 294, 3) := by decide +kernel
theorem dX11_sent_122 : decode cX11_sent 122 = .ok (.aload_n 0, 1) := by decide +kernel
theorem dX11_sent_123 : decode cX11_sent 123 = .ok (.getfield 40, 3) := by decide +kernel
theorem dX11_sent_126 : decode cX11_sent 126 = .ok (.iload_n 1, 1) := by decide +kernel
theorem dX11_sent_127 : decode cX11_sent 127 = .ok (.invokevirtual 298, 3) := by decide +kernel
theorem dX11_sent_130 : decode cX11_sent 130 = .ok (.istore 7, 2) := by decide +kernel
theorem dX11_sent_132 : decode cX11_sent 132 = .ok (.aload_n 0, 1) := by decide +kernel
theorem dX11_sent_133 : decode cX11_sent 133 = .ok (.getfield 40, 3) := by decide +kernel
theorem dX11_sent_136 : decode cX11_sent 136 = .ok (.getfield 237, 3) := by decide +kernel
theorem dX11_sent_139 : decode cX11_sent 139 = .ok (.iload_n 2, 1) := by decide +kernel
theorem dX11_sent_140 : decode cX11_sent 140 = .ok (.if_icmp .ne 18, 3) := by decide +kernel
theorem dX11_sent_143 : decode cX11_sent 143 = .ok (.iload 7, 2) := by decide +kernel
theorem dX11_sent_145 : decode cX11_sent 145 = .ok (.iload 5, 2) := by decide +kernel
theorem dX11_sent_147 : decode cX11_sent 147 = .ok (.if_icmp .ge 11, 3) := by decide +kernel
theorem dX11_sent_150 : decode cX11_sent 150 = .ok (.iload 6, 2) := by decide +kernel
theorem dX11_sent_152 : decode cX11_sent 152 = .ok (.istore 4, 2) := by decide +kernel
theorem dX11_sent_154 : decode cX11_sent 154 = .ok (.iload 7, 2) := by decide +kernel
theorem dX11_sent_156 : decode cX11_sent 156 = .ok (.istore 5, 2) := by decide +kernel
theorem dX11_sent_158 : decode cX11_sent 158 = .ok (.iinc 6 1, 3) := by decide +kernel
theorem dX11_sent_161 : decode cX11_sent 161 = .ok (.goto (-79), 3) := by decide +kernel
theorem dX11_sent_164 : decode cX11_sent 164 = .ok (.iload 4, 2) := by decide +kernel
theorem dX11_sent_166 : decode cX11_sent 166 = .ok (.bipush (-4), 2) := by decide +kernel
theorem dX11_sent_168 : decode cX11_sent 168 = .ok (.if_icmp .ne 6, 3) := by decide +kernel
theorem dX11_sent_171 : decode cX11_sent 171 = .ok (.bipush (-4), 2) := by decide +kernel
theorem dX11_sent_173 : decode cX11_sent 173 = .ok (.ireturn, 1) := by decide +kernel
theorem dX11_sent_174 : decode cX11_sent 174 = .ok (.iload_n 3, 1) := by decide +kernel
theorem dX11_sent_175 : decode cX11_sent 175 = .ok (.ifCond .ne 8, 3) := by decide +kernel
theorem dX11_sent_178 : decode cX11_sent 178 = .ok (.iload 4, 2) := by decide +kernel
theorem dX11_sent_180 : decode cX11_sent 180 = .ok (.goto 5, 3) := by decide +kernel
theorem dX11_sent_183 : decode cX11_sent 183 = .ok (.iload 5, 2) := by decide +kernel
theorem dX11_sent_185 : decode cX11_sent 185 = .ok (.ireturn, 1) := by decide +kernel
theorem dX11_fall_0 : decode cX11_fall 0 = .ok (.aload_n 0, 1) := by decide +kernel
theorem dX11_fall_1 : decode cX11_fall 1 = .ok (.getfield 19, 3) := by decide +kernel
theorem dX11_fall_4 : decode cX11_fall 4 = .ok (.iload_n 1, 1) := by decide +kernel
theorem dX11_fall_5 : decode cX11_fall 5 = .ok (.invokevirtual 141, 3) := by decide +kernel
theorem dX11_fall_8 : decode cX11_fall 8 = .ok (.ifCond .eq 12, 3) := by decide +kernel
theorem dX11_fall_11 : decode cX11_fall 11 = .ok (.iload_n 2, 1) := by decide +kernel
theorem dX11_fall_12 : decode cX11_fall 12 = .ok (.iconst 0, 1) := by decide +kernel
theorem dX11_fall_13 : decode cX11_fall 13 = .ok (.iconst 1, 1) := by decide +kernel
theorem dX11_fall_14 : decode cX11_fall 14 = .ok (.invokestatic 111, 3) := by decide +kernel
theorem dX11_fall_17 : decode cX11_fall 17 = .ok (.ifCond .ne 5, 3) := by decide +kernel
theorem dX11_fall_20 : decode cX11_fall 20 = .ok (.iconst (-1), 1) := by decide +kernel
theorem dX11_fall_21 : decode cX11_fall 21 = .ok (.ireturn, 1) := by decide +kernel
theorem dX11_fall_22 : decode cX11_fall 22 = .ok (.aload_n 0, 1) := by decide +kernel
theorem dX11_fall_23 : decode cX11_fall 23 = .ok (.getfield 19, 3) := by decide +kernel
theorem dX11_fall_26 : decode cX11_fall 26 = .ok (.getfield 147, 3) := by decide +kernel
theorem dX11_fall_29 : decode cX11_fall 29 = .ok (.getfield 162, 3) := by decide +kernel
theorem dX11_fall_32 : decode cX11_fall 32 = .ok (.iload_n 1, 1) := by decide +kernel
theorem dX11_fall_33 : decode cX11_fall 33 = .ok (.baload, 1) := by decide +kernel
theorem dX11_fall_34 : decode cX11_fall 34 = .ok (.ifCond .eq 6, 3) := by decide +kernel
theorem dX11_fall_37 : decode cX11_fall 37 = .ok (.bipush (-2), 2) := by decide +kernel
theorem dX11_fall_39 : decode cX11_fall 39 = .ok (.ireturn, 1) := by decide +kernel
theorem dX11_fall_40 : decode cX11_fall 40 = .ok (.aload_n 0, 1) := by decide +kernel
theorem dX11_fall_41 : decode cX11_fall 41 = .ok (.getfield 40, 3) := by decide +kernel
theorem dX11_fall_44 : decode cX11_fall 44 = .ok (.aload_n 0, 1) := by decide +kernel
theorem dX11_fall_45 : decode cX11_fall 45 = .ok (.getfield 19, 3) := by decide +kernel
theorem dX11_fall_48 : decode cX11_fall 48 = .ok (.getfield 122, 3) := by decide +kernel
theorem dX11_fall_51 : decode cX11_fall 51 = .ok (.getfield 144, 3) := by decide +kernel
theorem dX11_fall_54 : decode cX11_fall 54 = .ok (.iload_n 1, 1) := by decide +kernel
theorem dX11_fall_55 : decode cX11_fall 55 = .ok (.iaload, 1) := by decide +kernel
theorem dX11_fall_56 : decode cX11_fall 56 = .ok (.aload_n 0, 1) := by decide +kernel
theorem dX11_fall_57 : decode cX11_fall 57 = .ok (.getfield 19, 3) := by decide +kernel
theorem dX11_fall_60 : decode cX11_fall 60 = .ok (.getfield 147, 3) := by decide +kernel
theorem dX11_fall_63 : decode cX11_fall 63 = .ok (.getfield 151, 3) := by decide +kernel
theorem dX11_fall_66 : decode cX11_fall 66 = .ok (.iload_n 1, 1) := by decide +kernel
theorem dX11_fall_67 : decode cX11_fall 67 = .ok (.iaload, 1) := by decide +kernel
theorem dX11_fall_68 : decode cX11_fall 68 = .ok (.bipush 9, 2) := by decide +kernel
theorem dX11_fall_70 : decode cX11_fall 70 = .ok (.invokevirtual 294, 3) := by decide +kernel
theorem dX11_fall_73 : decode cX11_fall 73 = .ok (.aload_n 0, 1) := by decide +kernel
theorem dX11_fall_74 : decode cX11_fall 74 = .ok (.getfield 40, 3) := by decide +kernel
theorem dX11_fall_77 : decode cX11_fall 77 = .ok (.iload_n 1, 1) := by decide +kernel
theorem dX11_fall_78 : decode cX11_fall 78 = .ok (.invokevirtual 298, 3) := by decide +kernel
theorem dX11_fall_81 : decode cX11_fall 81 = .ok (.istore_n 3, 1) := by decide +kernel
theorem dX11_fall_82 : decode cX11_fall 82 = .ok (.iload_n 2, 1) := by decide +kernel
theorem dX11_fall_83 : decode cX11_fall 83 = .ok (.ifCond .ne 13, 3) := by decide +kernel
theorem dX11_fall_86 : decode cX11_fall 86 = .ok (.aload_n 0, 1) := by decide +kernel
theorem dX11_fall_87 : decode cX11_fall 87 = .ok (.getfield 40, 3) := by decide +kernel
theorem dX11_fall_90 : decode cX11_fall 90 = .ok (.getfield 237, 3) := by decide +kernel
theorem dX11_fall_93 : decode cX11_fall 93 = .ok (.goto 4, 3) := by decide +kernel
theorem dX11_fall_96 : decode cX11_fall 96 = .ok (.iload_n 3, 1) := by decide +kernel
theorem dX11_fall_97 : decode cX11_fall 97 = .ok (.ireturn, 1) := by decide +kernel
theorem dX11_clear_0 : decode cX11_clear 0 = .ok (.aload_n 0, 1) := by decide +kernel
theorem dX11_clear_1 : decode cX11_clear 1 = .ok (.getfield 19, 3) := by decide +kernel
theorem dX11_clear_4 : decode cX11_clear 4 = .ok (.iload_n 1, 1) := by decide +kernel
theorem dX11_clear_5 : decode cX11_clear 5 = .ok (.invokevirtual 128, 3) := by decide +kernel
theorem dX11_clear_8 : decode cX11_clear 8 = .ok (.ifCond .eq 19, 3) := by decide +kernel
theorem dX11_clear_11 : decode cX11_clear 11 = .ok (.aload_n 0, 1) := by decide +kernel
theorem dX11_clear_12 : decode cX11_clear 12 = .ok (.getfield 19, 3) := by decide +kernel
theorem dX11_clear_15 : decode cX11_clear 15 = .ok (.iload_n 2, 1) := by decide +kernel
theorem dX11_clear_16 : decode cX11_clear 16 = .ok (.invokevirtual 128, 3) := by decide +kernel
theorem dX11_clear_19 : decode cX11_clear 19 = .ok (.ifCond .eq 8, 3) := by decide +kernel
theorem dX11_clear_22 : decode cX11_clear 22 = .ok (.iload_n 2, 1) := by decide +kernel
theorem dX11_clear_23 : decode cX11_clear 23 = .ok (.iload_n 1, 1) := by decide +kernel
theorem dX11_clear_24 : decode cX11_clear 24 = .ok (.if_icmp .ge 5, 3) := by decide +kernel
theorem dX11_clear_27 : decode cX11_clear 27 = .ok (.iconst (-1), 1) := by decide +kernel
theorem dX11_clear_28 : decode cX11_clear 28 = .ok (.ireturn, 1) := by decide +kernel
theorem dX11_clear_29 : decode cX11_clear 29 = .ok (.aload_n 0, 1) := by decide +kernel
theorem dX11_clear_30 : decode cX11_clear 30 = .ok (.iload_n 1, 1) := by decide +kernel
theorem dX11_clear_31 : decode cX11_clear 31 = .ok (.iload_n 2, 1) := by decide +kernel
theorem dX11_clear_32 : decode cX11_clear 32 = .ok (.invokevirtual 301, 3) := by decide +kernel
theorem dX11_clear_35 : decode cX11_clear 35 = .ok (.ireturn, 1) := by decide +kernel
theorem dX11_gain_0 : decode cX11_gain 0 = .ok (.aload_n 0, 1) := by decide +kernel
theorem dX11_gain_1 : decode cX11_gain 1 = .ok (.getfield 19, 3) := by decide +kernel
theorem dX11_gain_4 : decode cX11_gain 4 = .ok (.iload_n 1, 1) := by decide +kernel
theorem dX11_gain_5 : decode cX11_gain 5 = .ok (.invokevirtual 128, 3) := by decide +kernel
theorem dX11_gain_8 : decode cX11_gain 8 = .ok (.ifCond .eq 8, 3) := by decide +kernel
theorem dX11_gain_11 : decode cX11_gain 11 = .ok (.iload_n 1, 1) := by decide +kernel
theorem dX11_gain_12 : decode cX11_gain 12 = .ok (.iconst 1, 1) := by decide +kernel
theorem dX11_gain_13 : decode cX11_gain 13 = .ok (.if_icmp .ge 5, 3) := by decide +kernel
theorem dX11_gain_16 : decode cX11_gain 16 = .ok (.iconst (-1), 1) := by decide +kernel
theorem dX11_gain_17 : decode cX11_gain 17 = .ok (.ireturn, 1) := by decide +kernel
theorem dX11_gain_18 : decode cX11_gain 18 = .ok (.aload_n 0, 1) := by decide +kernel
theorem dX11_gain_19 : decode cX11_gain 19 = .ok (.iload_n 1, 1) := by decide +kernel
theorem dX11_gain_20 : decode cX11_gain 20 = .ok (.aload_n 0, 1) := by decide +kernel
theorem dX11_gain_21 : decode cX11_gain 21 = .ok (.getfield 19, 3) := by decide +kernel
theorem dX11_gain_24 : decode cX11_gain 24 = .ok (.getfield 122, 3) := by decide +kernel
theorem dX11_gain_27 : decode cX11_gain 27 = .ok (.getfield 125, 3) := by decide +kernel
theorem dX11_gain_30 : decode cX11_gain 30 = .ok (.iconst 1, 1) := by decide +kernel
theorem dX11_gain_31 : decode cX11_gain 31 = .ok (.isub, 1) := by decide +kernel
theorem dX11_gain_32 : decode cX11_gain 32 = .ok (.invokevirtual 301, 3) := by decide +kernel
theorem dX11_gain_35 : decode cX11_gain 35 = .ok (.istore_n 2, 1) := by decide +kernel
theorem dX11_gain_36 : decode cX11_gain 36 = .ok (.aload_n 0, 1) := by decide +kernel
theorem dX11_gain_37 : decode cX11_gain 37 = .ok (.iconst 0, 1) := by decide +kernel
theorem dX11_gain_38 : decode cX11_gain 38 = .ok (.iload_n 1, 1) := by decide +kernel
theorem dX11_gain_39 : decode cX11_gain 39 = .ok (.iconst 1, 1) := by decide +kernel
theorem dX11_gain_40 : decode cX11_gain 40 = .ok (.isub, 1) := by decide +kernel
theorem dX11_gain_41 : decode cX11_gain 41 = .ok (.invokevirtual 301, 3) := by decide +kernel
theorem dX11_gain_44 : decode cX11_gain 44 = .ok (.istore_n 3, 1) := by decide +kernel
theorem dX11_gain_45 : decode cX11_gain 45 = .ok (.iload_n 2, 1) := by decide +kernel
theorem dX11_gain_46 : decode cX11_gain 46 = .ok (.bipush (-4), 2) := by decide +kernel
theorem dX11_gain_48 : decode cX11_gain 48 = .ok (.if_icmp .eq 9, 3) := by decide +kernel
theorem dX11_gain_51 : decode cX11_gain 51 = .ok (.iload_n 3, 1) := by decide +kernel
theorem dX11_gain_52 : decode cX11_gain 52 = .ok (.bipush (-4), 2) := by decide +kernel
theorem dX11_gain_54 : decode cX11_gain 54 = .ok (.if_icmp .ne 6, 3) := by decide +kernel
theorem dX11_gain_57 : decode cX11_gain 57 = .ok (.bipush (-4), 2) := by decide +kernel
theorem dX11_gain_59 : decode cX11_gain 59 = .ok (.ireturn, 1) := by decide +kernel
theorem dX11_gain_60 : decode cX11_gain 60 = .ok (.iconst 0, 1) := by decide +kernel
theorem dX11_gain_61 : decode cX11_gain 61 = .ok (.iload_n 2, 1) := by decide +kernel
theorem dX11_gain_62 : decode cX11_gain 62 = .ok (.iload_n 3, 1) := by decide +kernel
theorem dX11_gain_63 : decode cX11_gain 63 = .ok (.isub, 1) := by decide +kernel
theorem dX11_gain_64 : decode cX11_gain 64 = .ok (.invokestatic 304, 3) := by decide +kernel
theorem dX11_gain_67 : decode cX11_gain 67 = .ok (.ireturn, 1) := by decide +kernel
theorem dX11_drifted_0 : decode cX11_drifted 0 = .ok (.aload_n 0, 1) := by decide +kernel
theorem dX11_drifted_1 : decode cX11_drifted 1 = .ok (.getfield 19, 3) := by decide +kernel
theorem dX11_drifted_4 : decode cX11_drifted 4 = .ok (.iload_n 1, 1) := by decide +kernel
theorem dX11_drifted_5 : decode cX11_drifted 5 = .ok (.invokevirtual 128, 3) := by decide +kernel
theorem dX11_drifted_8 : decode cX11_drifted 8 = .ok (.ifCond .eq 36, 3) := by decide +kernel
theorem dX11_drifted_11 : decode cX11_drifted 11 = .ok (.aload_n 0, 1) := by decide +kernel
theorem dX11_drifted_12 : decode cX11_drifted 12 = .ok (.getfield 19, 3) := by decide +kernel
theorem dX11_drifted_15 : decode cX11_drifted 15 = .ok (.iload_n 2, 1) := by decide +kernel
theorem dX11_drifted_16 : decode cX11_drifted 16 = .ok (.invokevirtual 204, 3) := by decide +kernel
theorem dX11_drifted_19 : decode cX11_drifted 19 = .ok (.ifCond .eq 25, 3) := by decide +kernel
theorem dX11_drifted_22 : decode cX11_drifted 22 = .ok (.aload_n 0, 1) := by decide +kernel
theorem dX11_drifted_23 : decode cX11_drifted 23 = .ok (.getfield 19, 3) := by decide +kernel
theorem dX11_drifted_26 : decode cX11_drifted 26 = .ok (.iload_n 3, 1) := by decide +kernel
theorem dX11_drifted_27 : decode cX11_drifted 27 = .ok (.invokevirtual 204, 3) := by decide +kernel
theorem dX11_drifted_30 : decode cX11_drifted 30 = .ok (.ifCond .eq 14, 3) := by decide +kernel
theorem dX11_drifted_33 : decode cX11_drifted 33 = .ok (.iload 4, 2) := by decide +kernel
theorem dX11_drifted_35 : decode cX11_drifted 35 = .ok (.iconst 1, 1) := by decide +kernel
theorem dX11_drifted_36 : decode cX11_drifted 36 = .ok (.bipush 50, 2) := by decide +kernel
theorem dX11_drifted_38 : decode cX11_drifted 38 = .ok (.invokestatic 111, 3) := by decide +kernel
theorem dX11_drifted_41 : decode cX11_drifted 41 = .ok (.ifCond .ne 5, 3) := by decide +kernel
theorem dX11_drifted_44 : decode cX11_drifted 44 = .ok (.iconst (-1), 1) := by decide +kernel
theorem dX11_drifted_45 : decode cX11_drifted 45 = .ok (.ireturn, 1) := by decide +kernel
theorem dX11_drifted_46 : decode cX11_drifted 46 = .ok (.aload_n 0, 1) := by decide +kernel
theorem dX11_drifted_47 : decode cX11_drifted 47 = .ok (.getfield 73, 3) := by decide +kernel
theorem dX11_drifted_50 : decode cX11_drifted 50 = .ok (.iload_n 1, 1) := by decide +kernel
theorem dX11_drifted_51 : decode cX11_drifted 51 = .ok (.iload_n 2, 1) := by decide +kernel
theorem dX11_drifted_52 : decode cX11_drifted 52 = .ok (.iload_n 3, 1) := by decide +kernel
theorem dX11_drifted_53 : decode cX11_drifted 53 = .ok (.iload 4, 2) := by decide +kernel
theorem dX11_drifted_55 : decode cX11_drifted 55 = .ok (.invokevirtual 309, 3) := by decide +kernel
theorem dX11_drifted_58 : decode cX11_drifted 58 = .ok (.ifCond .ne 6, 3) := by decide +kernel
theorem dX11_drifted_61 : decode cX11_drifted 61 = .ok (.bipush (-3), 2) := by decide +kernel
theorem dX11_drifted_63 : decode cX11_drifted 63 = .ok (.ireturn, 1) := by decide +kernel
theorem dX11_drifted_64 : decode cX11_drifted 64 = .ok (.aload_n 0, 1) := by decide +kernel
theorem dX11_drifted_65 : decode cX11_drifted 65 = .ok (.getfield 73, 3) := by decide +kernel
theorem dX11_drifted_68 : decode cX11_drifted 68 = .ok (.getfield 312, 3) := by decide +kernel
theorem dX11_drifted_71 : decode cX11_drifted 71 = .ok (.ireturn, 1) := by decide +kernel
theorem dX11_forget_0 : decode cX11_forget 0 = .ok (.aload_n 0, 1) := by decide +kernel
theorem dX11_forget_1 : decode cX11_forget 1 = .ok (.getfield 73, 3) := by decide +kernel
theorem dX11_forget_4 : decode cX11_forget 4 = .ok (.invokevirtual 313, 3) := by decide +kernel
theorem dX11_forget_7 : decode cX11_forget 7 = .ok (.ireturn, 1) := by decide +kernel
theorem dX11_currents_0 : decode cX11_currents 0 = .ok (.aload_n 0, 1) := by decide +kernel
theorem dX11_currents_1 : decode cX11_currents 1 = .ok (.getfield 19, 3) := by decide +kernel
theorem dX11_currents_4 : decode cX11_currents 4 = .ok (.iload_n 1, 1) := by decide +kernel
theorem dX11_currents_5 : decode cX11_currents 5 = .ok (.invokevirtual 128, 3) := by decide +kernel
theorem dX11_currents_8 : decode cX11_currents 8 = .ok (.ifCond .ne 5, 3) := by decide +kernel
theorem dX11_currents_11 : decode cX11_currents 11 = .ok (.iconst (-1), 1) := by decide +kernel
theorem dX11_currents_12 : decode cX11_currents 12 = .ok (.ireturn, 1) := by decide +kernel
theorem dX11_currents_13 : decode cX11_currents 13 = .ok (.iconst 0, 1) := by decide +kernel
theorem dX11_currents_14 : decode cX11_currents 14 = .ok (.istore_n 2, 1) := by decide +kernel
theorem dX11_currents_15 : decode cX11_currents 15 = .ok (.iconst 0, 1) := by decide +kernel
theorem dX11_currents_16 : decode cX11_currents 16 = .ok (.istore_n 3, 1) := by decide +kernel
theorem dX11_currents_17 : decode cX11_currents 17 = .ok (.iload_n 3, 1) := by decide +kernel
theorem dX11_currents_18 : decode cX11_currents 18 = .ok (.bipush 6, 2) := by decide +kernel
theorem dX11_currents_20 : decode cX11_currents 20 = .ok (.if_icmp .gt 34, 3) := by decide +kernel
theorem dX11_currents_23 : decode cX11_currents 23 = .ok (.aload_n 0, 1) := by decide +kernel
theorem dX11_currents_24 : decode cX11_currents 24 = .ok (.getfield 73, 3) := by decide +kernel
theorem dX11_currents_27 : decode cX11_currents 27 = .ok (.aload_n 0, 1) := by decide +kernel
theorem dX11_currents_28 : decode cX11_currents 28 = .ok (.getfield 19, 3) := by decide +kernel
theorem dX11_currents_31 : decode cX11_currents 31 = .ok (.getfield 122, 3) := by decide +kernel
theorem dX11_currents_34 : decode cX11_currents 34 = .ok (.iload_n 1, 1) := by decide +kernel
theorem dX11_currents_35 : decode cX11_currents 35 = .ok (.iload_n 3, 1) := by decide +kernel
theorem dX11_currents_36 : decode cX11_currents 36 = .ok (.invokevirtual 314, 3) := by decide +kernel
theorem dX11_currents_39 : decode cX11_currents 39 = .ok (.ifCond .eq 9, 3) := by decide +kernel
theorem dX11_currents_42 : decode cX11_currents 42 = .ok (.iload_n 2, 1) := by decide +kernel
theorem dX11_currents_43 : decode cX11_currents 43 = .ok (.iconst 1, 1) := by decide +kernel
theorem dX11_currents_44 : decode cX11_currents 44 = .ok (.iload_n 3, 1) := by decide +kernel
theorem dX11_currents_45 : decode cX11_currents 45 = .ok (.ishl, 1) := by decide +kernel
theorem dX11_currents_46 : decode cX11_currents 46 = .ok (.ior, 1) := by decide +kernel
theorem dX11_currents_47 : decode cX11_currents 47 = .ok (.istore_n 2, 1) := by decide +kernel
theorem dX11_currents_48 : decode cX11_currents 48 = .ok (.iinc 3 1, 3) := by decide +kernel
theorem dX11_currents_51 : decode cX11_currents 51 = .ok (.goto (-34), 3) := by decide +kernel
theorem dX11_currents_54 : decode cX11_currents 54 = .ok (.iload_n 2, 1) := by decide +kernel
theorem dX11_currents_55 : decode cX11_currents 55 = .ok (.ireturn, 1) := by decide +kernel
theorem dX11_leak_0 : decode cX11_leak 0 = .ok (.aload_n 0, 1) := by decide +kernel
theorem dX11_leak_1 : decode cX11_leak 1 = .ok (.getfield 19, 3) := by decide +kernel
theorem dX11_leak_4 : decode cX11_leak 4 = .ok (.iload_n 1, 1) := by decide +kernel
theorem dX11_leak_5 : decode cX11_leak 5 = .ok (.invokevirtual 128, 3) := by decide +kernel
theorem dX11_leak_8 : decode cX11_leak 8 = .ok (.ifCond .eq 23, 3) := by decide +kernel
theorem dX11_leak_11 : decode cX11_leak 11 = .ok (.iload_n 2, 1) := by decide +kernel
theorem dX11_leak_12 : decode cX11_leak 12 = .ok (.iconst 0, 1) := by decide +kernel
theorem dX11_leak_13 : decode cX11_leak 13 = .ok (.bipush 9, 2) := by decide +kernel
theorem dX11_leak_15 : decode cX11_leak 15 = .ok (.invokestatic 111, 3) := by decide +kernel
theorem dX11_leak_18 : decode cX11_leak 18 = .ok (.ifCond .eq 13, 3) := by decide +kernel
theorem dX11_leak_21 : decode cX11_leak 21 = .ok (.iload_n 3, 1) := by decide +kernel
theorem dX11_leak_22 : decode cX11_leak 22 = .ok (.iconst 0, 1) := by decide +kernel
theorem dX11_leak_23 : decode cX11_leak 23 = .ok (.bipush 9, 2) := by decide +kernel
theorem dX11_leak_25 : decode cX11_leak 25 = .ok (.invokestatic 111, 3) := by decide +kernel
theorem dX11_leak_28 : decode cX11_leak 28 = .ok (.ifCond .ne 7, 3) := by decide +kernel
theorem dX11_leak_31 : decode cX11_leak 31 = .ok (.ldc2_w 318, 3) := by decide +kernel
theorem dX11_leak_34 : decode cX11_leak 34 = .ok (.lreturn, 1) := by decide +kernel
theorem dX11_leak_35 : decode cX11_leak 35 = .ok (.iload 4, 2) := by decide +kernel
theorem dX11_leak_37 : decode cX11_leak 37 = .ok (.iconst 0, 1) := by decide +kernel
theorem dX11_leak_38 : decode cX11_leak 38 = .ok (.bipush 10, 2) := by decide +kernel
theorem dX11_leak_40 : decode cX11_leak 40 = .ok (.invokestatic 111, 3) := by decide +kernel
theorem dX11_leak_43 : decode cX11_leak 43 = .ok (.ifCond .eq 13, 3) := by decide +kernel
theorem dX11_leak_46 : decode cX11_leak 46 = .ok (.iload 5, 2) := by decide +kernel
theorem dX11_leak_48 : decode cX11_leak 48 = .ok (.iconst 0, 1) := by decide +kernel
theorem dX11_leak_49 : decode cX11_leak 49 = .ok (.iconst 1, 1) := by decide +kernel
theorem dX11_leak_50 : decode cX11_leak 50 = .ok (.invokestatic 111, 3) := by decide +kernel
theorem dX11_leak_53 : decode cX11_leak 53 = .ok (.ifCond .ne 7, 3) := by decide +kernel
theorem dX11_leak_56 : decode cX11_leak 56 = .ok (.ldc2_w 318, 3) := by decide +kernel
theorem dX11_leak_59 : decode cX11_leak 59 = .ok (.lreturn, 1) := by decide +kernel
theorem dX11_leak_60 : decode cX11_leak 60 = .ok (.aload_n 0, 1) := by decide +kernel
theorem dX11_leak_61 : decode cX11_leak 61 = .ok (.aload_n 0, 1) := by decide +kernel
theorem dX11_leak_62 : decode cX11_leak 62 = .ok (.getfield 19, 3) := by decide +kernel
theorem dX11_leak_65 : decode cX11_leak 65 = .ok (.getfield 122, 3) := by decide +kernel
theorem dX11_leak_68 : decode cX11_leak 68 = .ok (.getfield 135, 3) := by decide +kernel
theorem dX11_leak_71 : decode cX11_leak 71 = .ok (.iload_n 1, 1) := by decide +kernel
theorem dX11_leak_72 : decode cX11_leak 72 = .ok (.iaload, 1) := by decide +kernel
theorem dX11_leak_73 : decode cX11_leak 73 = .ok (.iload_n 3, 1) := by decide +kernel
theorem dX11_leak_74 : decode cX11_leak 74 = .ok (.iload 4, 2) := by decide +kernel
theorem dX11_leak_76 : decode cX11_leak 76 = .ok (.invokevirtual 320, 3) := by decide +kernel
theorem dX11_leak_79 : decode cX11_leak 79 = .ok (.lconst 0, 1) := by decide +kernel
theorem dX11_leak_80 : decode cX11_leak 80 = .ok (.lstore 6, 2) := by decide +kernel
theorem dX11_leak_82 : decode cX11_leak 82 = .ok (.lconst 0, 1) := by decide +kernel
theorem dX11_leak_83 : decode cX11_leak 83 = .ok (.lstore 8, 2) := by decide +kernel
theorem dX11_leak_85 : decode cX11_leak 85 = .ok (.iconst 0, 1) := by decide +kernel
theorem dX11_leak_86 : decode cX11_leak 86 = .ok (.istore 10, 2) := by decide +kernel
theorem dX11_leak_88 : decode cX11_leak 88 = .ok (.iload 10, 2) := by decide +kernel
theorem dX11_leak_90 : decode cX11_leak 90 = .ok (.bipush 9, 2) := by decide +kernel
theorem dX11_leak_92 : decode cX11_leak 92 = .ok (.if_icmp .gt 39, 3) := by decide +kernel
theorem dX11_leak_95 : decode cX11_leak 95 = .ok (.lload 8, 2) := by decide +kernel
theorem dX11_leak_97 : decode cX11_leak 97 = .ok (.aload_n 0, 1) := by decide +kernel
theorem dX11_leak_98 : decode cX11_leak 98 = .ok (.getfield 77, 3) := by decide +kernel
theorem dX11_leak_101 : decode cX11_leak 101 = .ok (.iload 10, 2) := by decide +kernel
theorem dX11_leak_103 : decode cX11_leak 103 = .ok (.laload, 1) := by decide +kernel
theorem dX11_leak_104 : decode cX11_leak 104 = .ok (.ladd, 1) := by decide +kernel
theorem dX11_leak_105 : decode cX11_leak 105 = .ok (.lstore 8, 2) := by decide +kernel
theorem dX11_leak_107 : decode cX11_leak 107 = .ok (.iload 10, 2) := by decide +kernel
theorem dX11_leak_109 : decode cX11_leak 109 = .ok (.iload_n 2, 1) := by decide +kernel
theorem dX11_leak_110 : decode cX11_leak 110 = .ok (.if_icmp .lt 15, 3) := by decide +kernel
theorem dX11_leak_113 : decode cX11_leak 113 = .ok (.lload 6, 2) := by decide +kernel
theorem dX11_leak_115 : decode cX11_leak 115 = .ok (.aload_n 0, 1) := by decide +kernel
theorem dX11_leak_116 : decode cX11_leak 116 = .ok (.getfield 77, 3) := by decide +kernel
theorem dX11_leak_119 : decode cX11_leak 119 = .ok (.iload 10, 2) := by decide +kernel
theorem dX11_leak_121 : decode cX11_leak 121 = .ok (.laload, 1) := by decide +kernel
theorem dX11_leak_122 : decode cX11_leak 122 = .ok (.ladd, 1) := by decide +kernel
theorem dX11_leak_123 : decode cX11_leak 123 = .ok (.lstore 6, 2) := by decide +kernel
theorem dX11_leak_125 : decode cX11_leak 125 = .ok (.iinc 10 1, 3) := by decide +kernel
theorem dX11_leak_128 : decode cX11_leak 128 = .ok (.goto (-40), 3) := by decide +kernel
theorem dX11_leak_131 : decode cX11_leak 131 = .ok (.lload 8, 2) := by decide +kernel
theorem dX11_leak_133 : decode cX11_leak 133 = .ok (.lload 6, 2) := by decide +kernel
theorem dX11_leak_135 : decode cX11_leak 135 = .ok (.invokestatic 323, 3) := by decide +kernel
theorem dX11_leak_138 : decode cX11_leak 138 = .ok (.lstore 10, 2) := by decide +kernel
theorem dX11_leak_140 : decode cX11_leak 140 = .ok (.lload 10, 2) := by decide +kernel
theorem dX11_leak_142 : decode cX11_leak 142 = .ok (.lconst 1, 1) := by decide +kernel
theorem dX11_leak_143 : decode cX11_leak 143 = .ok (.lcmp, 1) := by decide +kernel
theorem dX11_leak_144 : decode cX11_leak 144 = .ok (.ifCond .ge 7, 3) := by decide +kernel
theorem dX11_leak_147 : decode cX11_leak 147 = .ok (.ldc2_w 318, 3) := by decide +kernel
theorem dX11_leak_150 : decode cX11_leak 150 = .ok (.lreturn, 1) := by decide +kernel
theorem dX11_leak_151 : decode cX11_leak 151 = .ok (.iload 5, 2) := by decide +kernel
theorem dX11_leak_153 : decode cX11_leak 153 = .ok (.ifCond .ne 11, 3) := by decide +kernel
theorem dX11_leak_156 : decode cX11_leak 156 = .ok (.lload 6, 2) := by decide +kernel
theorem dX11_leak_158 : decode cX11_leak 158 = .ok (.lload 10, 2) := by decide +kernel
theorem dX11_leak_160 : decode cX11_leak 160 = .ok (.ldiv, 1) := by decide +kernel
theorem dX11_leak_161 : decode cX11_leak 161 = .ok (.goto 8, 3) := by decide +kernel
theorem dX11_leak_164 : decode cX11_leak 164 = .ok (.lload 8, 2) := by decide +kernel
theorem dX11_leak_166 : decode cX11_leak 166 = .ok (.lload 10, 2) := by decide +kernel
theorem dX11_leak_168 : decode cX11_leak 168 = .ok (.ldiv, 1) := by decide +kernel
theorem dX11_leak_169 : decode cX11_leak 169 = .ok (.lreturn, 1) := by decide +kernel
theorem dX11_year_0 : decode cX11_year 0 = .ok (.iload_n 1, 1) := by decide +kernel
theorem dX11_year_1 : decode cX11_year 1 = .ok (.iconst 0, 1) := by decide +kernel
theorem dX11_year_2 : decode cX11_year 2 = .ok (.sipush 9999, 3) := by decide +kernel
theorem dX11_year_5 : decode cX11_year 5 = .ok (.invokestatic 111, 3) := by decide +kernel
theorem dX11_year_8 : decode cX11_year 8 = .ok (.ifCond .eq 13, 3) := by decide +kernel
theorem dX11_year_11 : decode cX11_year 11 = .ok (.iload_n 2, 1) := by decide +kernel
theorem dX11_year_12 : decode cX11_year 12 = .ok (.iconst 1, 1) := by decide +kernel
theorem dX11_year_13 : decode cX11_year 13 = .ok (.bipush 60, 2) := by decide +kernel
theorem dX11_year_15 : decode cX11_year 15 = .ok (.invokestatic 111, 3) := by decide +kernel
theorem dX11_year_18 : decode cX11_year 18 = .ok (.ifCond .ne 5, 3) := by decide +kernel
theorem dX11_year_21 : decode cX11_year 21 = .ok (.iconst (-1), 1) := by decide +kernel
theorem dX11_year_22 : decode cX11_year 22 = .ok (.ireturn, 1) := by decide +kernel
theorem dX11_year_23 : decode cX11_year 23 = .ok (.iload_n 3, 1) := by decide +kernel
theorem dX11_year_24 : decode cX11_year 24 = .ok (.iconst (-1), 1) := by decide +kernel
theorem dX11_year_25 : decode cX11_year 25 = .ok (.if_icmp .eq 16, 3) := by decide +kernel
theorem dX11_year_28 : decode cX11_year 28 = .ok (.aload_n 0, 1) := by decide +kernel
theorem dX11_year_29 : decode cX11_year 29 = .ok (.getfield 19, 3) := by decide +kernel
theorem dX11_year_32 : decode cX11_year 32 = .ok (.iload_n 3, 1) := by decide +kernel
theorem dX11_year_33 : decode cX11_year 33 = .ok (.invokevirtual 141, 3) := by decide +kernel
theorem dX11_year_36 : decode cX11_year 36 = .ok (.ifCond .ne 5, 3) := by decide +kernel
theorem dX11_year_39 : decode cX11_year 39 = .ok (.iconst (-1), 1) := by decide +kernel
theorem dX11_year_40 : decode cX11_year 40 = .ok (.ireturn, 1) := by decide +kernel
theorem dX11_year_41 : decode cX11_year 41 = .ok (.iload_n 3, 1) := by decide +kernel
theorem dX11_year_42 : decode cX11_year 42 = .ok (.iconst (-1), 1) := by decide +kernel
theorem dX11_year_43 : decode cX11_year 43 = .ok (.if_icmp .eq 21, 3) := by decide +kernel
theorem dX11_year_46 : decode cX11_year 46 = .ok (.aload_n 0, 1) := by decide +kernel
theorem dX11_year_47 : decode cX11_year 47 = .ok (.getfield 19, 3) := by decide +kernel
theorem dX11_year_50 : decode cX11_year 50 = .ok (.getfield 147, 3) := by decide +kernel
theorem dX11_year_53 : decode cX11_year 53 = .ok (.getfield 162, 3) := by decide +kernel
theorem dX11_year_56 : decode cX11_year 56 = .ok (.iload_n 3, 1) := by decide +kernel
theorem dX11_year_57 : decode cX11_year 57 = .ok (.baload, 1) := by decide +kernel
theorem dX11_year_58 : decode cX11_year 58 = .ok (.ifCond .eq 6, 3) := by decide +kernel
theorem dX11_year_61 : decode cX11_year 61 = .ok (.bipush (-2), 2) := by decide +kernel
theorem dX11_year_63 : decode cX11_year 63 = .ok (.ireturn, 1) := by decide +kernel
theorem dX11_year_64 : decode cX11_year 64 = .ok (.iconst 0, 1) := by decide +kernel
theorem dX11_year_65 : decode cX11_year 65 = .ok (.istore 4, 2) := by decide +kernel
theorem dX11_year_67 : decode cX11_year 67 = .ok (.iconst 0, 1) := by decide +kernel
theorem dX11_year_68 : decode cX11_year 68 = .ok (.istore 5, 2) := by decide +kernel
theorem dX11_year_70 : decode cX11_year 70 = .ok (.iload 5, 2) := by decide +kernel
theorem dX11_year_72 : decode cX11_year 72 = .ok (.iload_n 2, 1) := by decide +kernel
theorem dX11_year_73 : decode cX11_year 73 = .ok (.if_icmp .ge 56, 3) := by decide +kernel
theorem dX11_year_76 : decode cX11_year 76 = .ok (.aload_n 0, 1) := by decide +kernel
theorem dX11_year_77 : decode cX11_year 77 = .ok (.iload_n 1, 1) := by decide +kernel
theorem dX11_year_78 : decode cX11_year 78 = .ok (.iload 5, 2) := by decide +kernel
theorem dX11_year_80 : decode cX11_year 80 = .ok (.invokevirtual 327, 3) := by decide +kernel
theorem dX11_year_83 : decode cX11_year 83 = .ok (.aload_n 0, 1) := by decide +kernel
theorem dX11_year_84 : decode cX11_year 84 = .ok (.getfield 40, 3) := by decide +kernel
theorem dX11_year_87 : decode cX11_year 87 = .ok (.iconst (-1), 1) := by decide +kernel
theorem dX11_year_88 : decode cX11_year 88 = .ok (.invokevirtual 298, 3) := by decide +kernel
theorem dX11_year_91 : decode cX11_year 91 = .ok (.pop, 1) := by decide +kernel
theorem dX11_year_92 : decode cX11_year 92 = .ok (.aload_n 0, 1) := by decide +kernel
theorem dX11_year_93 : decode cX11_year 93 = .ok (.getfield 40, 3) := by decide +kernel
theorem dX11_year_96 : decode cX11_year 96 = .ok (.getfield 237, 3) := by decide +kernel
theorem dX11_year_99 : decode cX11_year 99 = .ok (.bipush (-4), 2) := by decide +kernel
theorem dX11_year_101 : decode cX11_year 101 = .ok (.if_icmp .eq 22, 3) := by decide +kernel
theorem dX11_year_104 : decode cX11_year 104 = .ok (.iload_n 3, 1) := by decide +kernel
theorem dX11_year_105 : decode cX11_year 105 = .ok (.iconst (-1), 1) := by decide +kernel
theorem dX11_year_106 : decode cX11_year 106 = .ok (.if_icmp .eq 14, 3) := by decide +kernel
theorem dX11_year_109 : decode cX11_year 109 = .ok (.aload_n 0, 1) := by decide +kernel
theorem dX11_year_110 : decode cX11_year 110 = .ok (.getfield 40, 3) := by decide +kernel
theorem dX11_year_113 : decode cX11_year 113 = .ok (.getfield 237, 3) := by decide +kernel
theorem dX11_year_116 : decode cX11_year 116 = .ok (.iload_n 3, 1) := by decide +kernel
theorem dX11_year_117 : decode cX11_year 117 = .ok (.if_icmp .ne 6, 3) := by decide +kernel
theorem dX11_year_120 : decode cX11_year 120 = .ok (.iinc 4 1, 3) := by decide +kernel
theorem dX11_year_123 : decode cX11_year 123 = .ok (.iinc 5 1, 3) := by decide +kernel
theorem dX11_year_126 : decode cX11_year 126 = .ok (.goto (-56), 3) := by decide +kernel
theorem dX11_year_129 : decode cX11_year 129 = .ok (.iload 4, 2) := by decide +kernel
theorem dX11_year_131 : decode cX11_year 131 = .ok (.ireturn, 1) := by decide +kernel
theorem dX11_keep_0 : decode cX11_keep 0 = .ok (.aload_n 0, 1) := by decide +kernel
theorem dX11_keep_1 : decode cX11_keep 1 = .ok (.getfield 32, 3) := by decide +kernel
theorem dX11_keep_4 : decode cX11_keep 4 = .ok (.getfield 228, 3) := by decide +kernel
theorem dX11_keep_7 : decode cX11_keep 7 = .ok (.iconst 2, 1) := by decide +kernel
theorem dX11_keep_8 : decode cX11_keep 8 = .ok (.if_icmp .lt 6, 3) := by decide +kernel
theorem dX11_keep_11 : decode cX11_keep 11 = .ok (.bipush (-3), 2) := by decide +kernel
theorem dX11_keep_13 : decode cX11_keep 13 = .ok (.ireturn, 1) := by decide +kernel
theorem dX11_keep_14 : decode cX11_keep 14 = .ok (.aload_n 0, 1) := by decide +kernel
theorem dX11_keep_15 : decode cX11_keep 15 = .ok (.getfield 32, 3) := by decide +kernel
theorem dX11_keep_18 : decode cX11_keep 18 = .ok (.aload_n 0, 1) := by decide +kernel
theorem dX11_keep_19 : decode cX11_keep 19 = .ok (.getfield 19, 3) := by decide +kernel
theorem dX11_keep_22 : decode cX11_keep 22 = .ok (.getfield 147, 3) := by decide +kernel
theorem dX11_keep_25 : decode cX11_keep 25 = .ok (.invokevirtual 184, 3) := by decide +kernel
theorem dX11_keep_28 : decode cX11_keep 28 = .ok (.aload_n 0, 1) := by decide +kernel
theorem dX11_keep_29 : decode cX11_keep 29 = .ok (.getfield 32, 3) := by decide +kernel
theorem dX11_keep_32 : decode cX11_keep 32 = .ok (.getfield 228, 3) := by decide +kernel
theorem dX11_keep_35 : decode cX11_keep 35 = .ok (.ireturn, 1) := by decide +kernel
theorem dX11_back_0 : decode cX11_back 0 = .ok (.aload_n 0, 1) := by decide +kernel
theorem dX11_back_1 : decode cX11_back 1 = .ok (.getfield 32, 3) := by decide +kernel
theorem dX11_back_4 : decode cX11_back 4 = .ok (.aload_n 0, 1) := by decide +kernel
theorem dX11_back_5 : decode cX11_back 5 = .ok (.getfield 19, 3) := by decide +kernel
theorem dX11_back_8 : decode cX11_back 8 = .ok (.getfield 147, 3) := by decide +kernel
theorem dX11_back_11 : decode cX11_back 11 = .ok (.invokevirtual 224, 3) := by decide +kernel
theorem dX11_back_14 : decode cX11_back 14 = .ok (.ifCond .ne 6, 3) := by decide +kernel
theorem dX11_back_17 : decode cX11_back 17 = .ok (.bipush (-2), 2) := by decide +kernel
theorem dX11_back_19 : decode cX11_back 19 = .ok (.ireturn, 1) := by decide +kernel
theorem dX11_back_20 : decode cX11_back 20 = .ok (.aload_n 0, 1) := by decide +kernel
theorem dX11_back_21 : decode cX11_back 21 = .ok (.getfield 28, 3) := by decide +kernel
theorem dX11_back_24 : decode cX11_back 24 = .ok (.invokevirtual 330, 3) := by decide +kernel
theorem dX11_back_27 : decode cX11_back 27 = .ok (.aload_n 0, 1) := by decide +kernel
theorem dX11_back_28 : decode cX11_back 28 = .ok (.getfield 32, 3) := by decide +kernel
theorem dX11_back_31 : decode cX11_back 31 = .ok (.getfield 228, 3) := by decide +kernel
theorem dX11_back_34 : decode cX11_back 34 = .ok (.ireturn, 1) := by decide +kernel
theorem dX11_count_0 : decode cX11_count 0 = .ok (.iload_n 1, 1) := by decide +kernel
theorem dX11_count_1 : decode cX11_count 1 = .ok (.tableswitch 150 0 9 #[55, 66, 77, 88, 99, 110, 118, 126, 134, 142], 55) := by decide +kernel
theorem dX11_count_56 : decode cX11_count 56 = .ok (.aload_n 0, 1) := by decide +kernel
theorem dX11_count_57 : decode cX11_count 57 = .ok (.getfield 19, 3) := by decide +kernel
theorem dX11_count_60 : decode cX11_count 60 = .ok (.getfield 122, 3) := by decide +kernel
theorem dX11_count_63 : decode cX11_count 63 = .ok (.getfield 125, 3) := by decide +kernel
theorem dX11_count_66 : decode cX11_count 66 = .ok (.ireturn, 1) := by decide +kernel
theorem dX11_count_67 : decode cX11_count 67 = .ok (.aload_n 0, 1) := by decide +kernel
theorem dX11_count_68 : decode cX11_count 68 = .ok (.getfield 19, 3) := by decide +kernel
theorem dX11_count_71 : decode cX11_count 71 = .ok (.getfield 122, 3) := by decide +kernel
theorem dX11_count_74 : decode cX11_count 74 = .ok (.getfield 267, 3) := by decide +kernel
theorem dX11_count_77 : decode cX11_count 77 = .ok (.ireturn, 1) := by decide +kernel
theorem dX11_count_78 : decode cX11_count 78 = .ok (.aload_n 0, 1) := by decide +kernel
theorem dX11_count_79 : decode cX11_count 79 = .ok (.getfield 19, 3) := by decide +kernel
theorem dX11_count_82 : decode cX11_count 82 = .ok (.getfield 122, 3) := by decide +kernel
theorem dX11_count_85 : decode cX11_count 85 = .ok (.getfield 264, 3) := by decide +kernel
theorem dX11_count_88 : decode cX11_count 88 = .ok (.ireturn, 1) := by decide +kernel
theorem dX11_count_89 : decode cX11_count 89 = .ok (.aload_n 0, 1) := by decide +kernel
theorem dX11_count_90 : decode cX11_count 90 = .ok (.getfield 19, 3) := by decide +kernel
theorem dX11_count_93 : decode cX11_count 93 = .ok (.getfield 147, 3) := by decide +kernel
theorem dX11_count_96 : decode cX11_count 96 = .ok (.getfield 188, 3) := by decide +kernel
theorem dX11_count_99 : decode cX11_count 99 = .ok (.ireturn, 1) := by decide +kernel
theorem dX11_count_100 : decode cX11_count 100 = .ok (.aload_n 0, 1) := by decide +kernel
theorem dX11_count_101 : decode cX11_count 101 = .ok (.getfield 19, 3) := by decide +kernel
theorem dX11_count_104 : decode cX11_count 104 = .ok (.getfield 147, 3) := by decide +kernel
theorem dX11_count_107 : decode cX11_count 107 = .ok (.getfield 181, 3) := by decide +kernel
theorem dX11_count_110 : decode cX11_count 110 = .ok (.ireturn, 1) := by decide +kernel
theorem dX11_count_111 : decode cX11_count 111 = .ok (.aload_n 0, 1) := by decide +kernel
theorem dX11_count_112 : decode cX11_count 112 = .ok (.getfield 59, 3) := by decide +kernel
theorem dX11_count_115 : decode cX11_count 115 = .ok (.getfield 272, 3) := by decide +kernel
theorem dX11_count_118 : decode cX11_count 118 = .ok (.ireturn, 1) := by decide +kernel
theorem dX11_count_119 : decode cX11_count 119 = .ok (.aload_n 0, 1) := by decide +kernel
theorem dX11_count_120 : decode cX11_count 120 = .ok (.getfield 73, 3) := by decide +kernel
theorem dX11_count_123 : decode cX11_count 123 = .ok (.getfield 312, 3) := by decide +kernel
theorem dX11_count_126 : decode cX11_count 126 = .ok (.ireturn, 1) := by decide +kernel
theorem dX11_count_127 : decode cX11_count 127 = .ok (.aload_n 0, 1) := by decide +kernel
theorem dX11_count_128 : decode cX11_count 128 = .ok (.getfield 28, 3) := by decide +kernel
theorem dX11_count_131 : decode cX11_count 131 = .ok (.getfield 228, 3) := by decide +kernel
theorem dX11_count_134 : decode cX11_count 134 = .ok (.ireturn, 1) := by decide +kernel
theorem dX11_count_135 : decode cX11_count 135 = .ok (.aload_n 0, 1) := by decide +kernel
theorem dX11_count_136 : decode cX11_count 136 = .ok (.getfield 32, 3) := by decide +kernel
theorem dX11_count_139 : decode cX11_count 139 = .ok (.getfield 228, 3) := by decide +kernel
theorem dX11_count_142 : decode cX11_count 142 = .ok (.ireturn, 1) := by decide +kernel
theorem dX11_count_143 : decode cX11_count 143 = .ok (.aload_n 0, 1) := by decide +kernel
theorem dX11_count_144 : decode cX11_count 144 = .ok (.getfield 12, 3) := by decide +kernel
theorem dX11_count_147 : decode cX11_count 147 = .ok (.getfield 115, 3) := by decide +kernel
theorem dX11_count_150 : decode cX11_count 150 = .ok (.ireturn, 1) := by decide +kernel
theorem dX11_count_151 : decode cX11_count 151 = .ok (.iconst (-1), 1) := by decide +kernel
theorem dX11_count_152 : decode cX11_count 152 = .ok (.ireturn, 1) := by decide +kernel
theorem dX11_within_0 : decode cX11_within 0 = .ok (.iload_n 0, 1) := by decide +kernel
theorem dX11_within_1 : decode cX11_within 1 = .ok (.iload_n 1, 1) := by decide +kernel
theorem dX11_within_2 : decode cX11_within 2 = .ok (.if_icmp .lt 12, 3) := by decide +kernel
theorem dX11_within_5 : decode cX11_within 5 = .ok (.iload_n 0, 1) := by decide +kernel
theorem dX11_within_6 : decode cX11_within 6 = .ok (.iload_n 2, 1) := by decide +kernel
theorem dX11_within_7 : decode cX11_within 7 = .ok (.if_icmp .gt 7, 3) := by decide +kernel
theorem dX11_within_10 : decode cX11_within 10 = .ok (.iconst 1, 1) := by decide +kernel
theorem dX11_within_11 : decode cX11_within 11 = .ok (.goto 4, 3) := by decide +kernel
theorem dX11_within_14 : decode cX11_within 14 = .ok (.iconst 0, 1) := by decide +kernel
theorem dX11_within_15 : decode cX11_within 15 = .ok (.ireturn, 1) := by decide +kernel
theorem dX11_spotOf_0 : decode cX11_spotOf 0 = .ok (.bipush 24, 2) := by decide +kernel
theorem dX11_spotOf_2 : decode cX11_spotOf 2 = .ok (.iload_n 0, 1) := by decide +kernel
theorem dX11_spotOf_3 : decode cX11_spotOf 3 = .ok (.imul, 1) := by decide +kernel
theorem dX11_spotOf_4 : decode cX11_spotOf 4 = .ok (.iload_n 1, 1) := by decide +kernel
theorem dX11_spotOf_5 : decode cX11_spotOf 5 = .ok (.iadd, 1) := by decide +kernel
theorem dX11_spotOf_6 : decode cX11_spotOf 6 = .ok (.ireturn, 1) := by decide +kernel
theorem dX11_layText_0 : decode cX11_layText 0 = .ok (.aload_n 0, 1) := by decide +kernel
theorem dX11_layText_1 : decode cX11_layText 1 = .ok (.getfield 12, 3) := by decide +kernel
theorem dX11_layText_4 : decode cX11_layText 4 = .ok (.aload_n 0, 1) := by decide +kernel
theorem dX11_layText_5 : decode cX11_layText 5 = .ok (.getfield 84, 3) := by decide +kernel
theorem dX11_layText_8 : decode cX11_layText 8 = .ok (.invokevirtual 118, 3) := by decide +kernel
theorem dX11_layText_11 : decode cX11_layText 11 = .ok (.bipush (-4), 2) := by decide +kernel
theorem dX11_layText_13 : decode cX11_layText 13 = .ok (.if_icmp .ne 13, 3) := by decide +kernel
theorem dX11_layText_16 : decode cX11_layText 16 = .ok (.aload_n 0, 1) := by decide +kernel
theorem dX11_layText_17 : decode cX11_layText 17 = .ok (.getfield 84, 3) := by decide +kernel
theorem dX11_layText_20 : decode cX11_layText 20 = .ok (.invokevirtual 332, 3) := by decide +kernel
theorem dX11_layText_23 : decode cX11_layText 23 = .ok (.ifCond .ne 5, 3) := by decide +kernel
theorem dX11_layText_26 : decode cX11_layText 26 = .ok (.iconst 0, 1) := by decide +kernel
theorem dX11_layText_27 : decode cX11_layText 27 = .ok (.ireturn, 1) := by decide +kernel
theorem dX11_layText_28 : decode cX11_layText 28 = .ok (.aload_n 0, 1) := by decide +kernel
theorem dX11_layText_29 : decode cX11_layText 29 = .ok (.getfield 19, 3) := by decide +kernel
theorem dX11_layText_32 : decode cX11_layText 32 = .ok (.getfield 122, 3) := by decide +kernel
theorem dX11_layText_35 : decode cX11_layText 35 = .ok (.astore_n 1, 1) := by decide +kernel
theorem dX11_layText_36 : decode cX11_layText 36 = .ok (.aload_n 0, 1) := by decide +kernel
theorem dX11_layText_37 : decode cX11_layText 37 = .ok (.getfield 19, 3) := by decide +kernel
theorem dX11_layText_40 : decode cX11_layText 40 = .ok (.aload_n 0, 1) := by decide +kernel
theorem dX11_layText_41 : decode cX11_layText 41 = .ok (.getfield 84, 3) := by decide +kernel
theorem dX11_layText_44 : decode cX11_layText 44 = .ok (.putfield 122, 3) := by decide +kernel
theorem dX11_layText_47 : decode cX11_layText 47 = .ok (.aload_n 0, 1) := by decide +kernel
theorem dX11_layText_48 : decode cX11_layText 48 = .ok (.aload_n 1, 1) := by decide +kernel
theorem dX11_layText_49 : decode cX11_layText 49 = .ok (.putfield 84, 3) := by decide +kernel
theorem dX11_layText_52 : decode cX11_layText 52 = .ok (.aload_n 0, 1) := by decide +kernel
theorem dX11_layText_53 : decode cX11_layText 53 = .ok (.getfield 19, 3) := by decide +kernel
theorem dX11_layText_56 : decode cX11_layText 56 = .ok (.invokevirtual 335, 3) := by decide +kernel
theorem dX11_layText_59 : decode cX11_layText 59 = .ok (.aload_n 0, 1) := by decide +kernel
theorem dX11_layText_60 : decode cX11_layText 60 = .ok (.getfield 50, 3) := by decide +kernel
theorem dX11_layText_63 : decode cX11_layText 63 = .ok (.invokevirtual 338, 3) := by decide +kernel
theorem dX11_layText_66 : decode cX11_layText 66 = .ok (.aload_n 0, 1) := by decide +kernel
theorem dX11_layText_67 : decode cX11_layText 67 = .ok (.getfield 59, 3) := by decide +kernel
theorem dX11_layText_70 : decode cX11_layText 70 = .ok (.invokevirtual 273, 3) := by decide +kernel
theorem dX11_layText_73 : decode cX11_layText 73 = .ok (.pop, 1) := by decide +kernel
theorem dX11_layText_74 : decode cX11_layText 74 = .ok (.aload_n 0, 1) := by decide +kernel
theorem dX11_layText_75 : decode cX11_layText 75 = .ok (.getfield 73, 3) := by decide +kernel
theorem dX11_layText_78 : decode cX11_layText 78 = .ok (.invokevirtual 313, 3) := by decide +kernel
theorem dX11_layText_81 : decode cX11_layText 81 = .ok (.pop, 1) := by decide +kernel
theorem dX11_layText_82 : decode cX11_layText 82 = .ok (.aload_n 0, 1) := by decide +kernel
theorem dX11_layText_83 : decode cX11_layText 83 = .ok (.getfield 28, 3) := by decide +kernel
theorem dX11_layText_86 : decode cX11_layText 86 = .ok (.invokevirtual 330, 3) := by decide +kernel
theorem dX11_layText_89 : decode cX11_layText 89 = .ok (.aload_n 0, 1) := by decide +kernel
theorem dX11_layText_90 : decode cX11_layText 90 = .ok (.getfield 32, 3) := by decide +kernel
theorem dX11_layText_93 : decode cX11_layText 93 = .ok (.invokevirtual 330, 3) := by decide +kernel
theorem dX11_layText_96 : decode cX11_layText 96 = .ok (.iconst 1, 1) := by decide +kernel
theorem dX11_layText_97 : decode cX11_layText 97 = .ok (.ireturn, 1) := by decide +kernel
theorem dX11_clearingPrice_0 : decode cX11_clearingPrice 0 = .ok (.aload_n 0, 1) := by decide +kernel
theorem dX11_clearingPrice_1 : decode cX11_clearingPrice 1 = .ok (.iload_n 1, 1) := by decide +kernel
theorem dX11_clearingPrice_2 : decode cX11_clearingPrice 2 = .ok (.iload_n 2, 1) := by decide +kernel
theorem dX11_clearingPrice_3 : decode cX11_clearingPrice 3 = .ok (.invokevirtual 339, 3) := by decide +kernel
theorem dX11_clearingPrice_6 : decode cX11_clearingPrice 6 = .ok (.ifCond .ne 6, 3) := by decide +kernel
theorem dX11_clearingPrice_9 : decode cX11_clearingPrice 9 = .ok (.bipush (-4), 2) := by decide +kernel
theorem dX11_clearingPrice_11 : decode cX11_clearingPrice 11 = .ok (.ireturn, 1) := by decide +kernel
theorem dX11_clearingPrice_12 : decode cX11_clearingPrice 12 = .ok (.iconst 0, 1) := by decide +kernel
theorem dX11_clearingPrice_13 : decode cX11_clearingPrice 13 = .ok (.istore_n 3, 1) := by decide +kernel
theorem dX11_clearingPrice_14 : decode cX11_clearingPrice 14 = .ok (.iload_n 3, 1) := by decide +kernel
theorem dX11_clearingPrice_15 : decode cX11_clearingPrice 15 = .ok (.bipush 20, 2) := by decide +kernel
theorem dX11_clearingPrice_17 : decode cX11_clearingPrice 17 = .ok (.if_icmp .gt 21, 3) := by decide +kernel
theorem dX11_clearingPrice_20 : decode cX11_clearingPrice 20 = .ok (.aload_n 0, 1) := by decide +kernel
theorem dX11_clearingPrice_21 : decode cX11_clearingPrice 21 = .ok (.iload_n 3, 1) := by decide +kernel
theorem dX11_clearingPrice_22 : decode cX11_clearingPrice 22 = .ok (.iload_n 1, 1) := by decide +kernel
theorem dX11_clearingPrice_23 : decode cX11_clearingPrice 23 = .ok (.iload_n 2, 1) := by decide +kernel
theorem dX11_clearingPrice_24 : decode cX11_clearingPrice 24 = .ok (.invokevirtual 342, 3) := by decide +kernel
theorem dX11_clearingPrice_27 : decode cX11_clearingPrice 27 = .ok (.ifCond .gt 5, 3) := by decide +kernel
theorem dX11_clearingPrice_30 : decode cX11_clearingPrice 30 = .ok (.iload_n 3, 1) := by decide +kernel
theorem dX11_clearingPrice_31 : decode cX11_clearingPrice 31 = .ok (.ireturn, 1) := by decide +kernel
theorem dX11_clearingPrice_32 : decode cX11_clearingPrice 32 = .ok (.iinc 3 1, 3) := by decide +kernel
theorem dX11_clearingPrice_35 : decode cX11_clearingPrice 35 = .ok (.goto (-21), 3) := by decide +kernel
theorem dX11_clearingPrice_38 : decode cX11_clearingPrice 38 = .ok (.bipush (-4), 2) := by decide +kernel
theorem dX11_clearingPrice_40 : decode cX11_clearingPrice 40 = .ok (.ireturn, 1) := by decide +kernel
theorem dX11_anyTown_0 : decode cX11_anyTown 0 = .ok (.iconst 0, 1) := by decide +kernel
theorem dX11_anyTown_1 : decode cX11_anyTown 1 = .ok (.istore_n 3, 1) := by decide +kernel
theorem dX11_anyTown_2 : decode cX11_anyTown 2 = .ok (.iload_n 3, 1) := by decide +kernel
theorem dX11_anyTown_3 : decode cX11_anyTown 3 = .ok (.aload_n 0, 1) := by decide +kernel
theorem dX11_anyTown_4 : decode cX11_anyTown 4 = .ok (.getfield 19, 3) := by decide +kernel
theorem dX11_anyTown_7 : decode cX11_anyTown 7 = .ok (.getfield 122, 3) := by decide +kernel
theorem dX11_anyTown_10 : decode cX11_anyTown 10 = .ok (.getfield 264, 3) := by decide +kernel
theorem dX11_anyTown_13 : decode cX11_anyTown 13 = .ok (.if_icmp .ge 46, 3) := by decide +kernel
theorem dX11_anyTown_16 : decode cX11_anyTown 16 = .ok (.aload_n 0, 1) := by decide +kernel
theorem dX11_anyTown_17 : decode cX11_anyTown 17 = .ok (.getfield 19, 3) := by decide +kernel
theorem dX11_anyTown_20 : decode cX11_anyTown 20 = .ok (.getfield 147, 3) := by decide +kernel
theorem dX11_anyTown_23 : decode cX11_anyTown 23 = .ok (.getfield 162, 3) := by decide +kernel
theorem dX11_anyTown_26 : decode cX11_anyTown 26 = .ok (.iload_n 3, 1) := by decide +kernel
theorem dX11_anyTown_27 : decode cX11_anyTown 27 = .ok (.baload, 1) := by decide +kernel
theorem dX11_anyTown_28 : decode cX11_anyTown 28 = .ok (.ifCond .ne 25, 3) := by decide +kernel
theorem dX11_anyTown_31 : decode cX11_anyTown 31 = .ok (.aload_n 0, 1) := by decide +kernel
theorem dX11_anyTown_32 : decode cX11_anyTown 32 = .ok (.getfield 19, 3) := by decide +kernel
theorem dX11_anyTown_35 : decode cX11_anyTown 35 = .ok (.getfield 122, 3) := by decide +kernel
theorem dX11_anyTown_38 : decode cX11_anyTown 38 = .ok (.getfield 144, 3) := by decide +kernel
theorem dX11_anyTown_41 : decode cX11_anyTown 41 = .ok (.iload_n 3, 1) := by decide +kernel
theorem dX11_anyTown_42 : decode cX11_anyTown 42 = .ok (.iaload, 1) := by decide +kernel
theorem dX11_anyTown_43 : decode cX11_anyTown 43 = .ok (.iload_n 1, 1) := by decide +kernel
theorem dX11_anyTown_44 : decode cX11_anyTown 44 = .ok (.iload_n 2, 1) := by decide +kernel
theorem dX11_anyTown_45 : decode cX11_anyTown 45 = .ok (.invokestatic 111, 3) := by decide +kernel
theorem dX11_anyTown_48 : decode cX11_anyTown 48 = .ok (.ifCond .eq 5, 3) := by decide +kernel
theorem dX11_anyTown_51 : decode cX11_anyTown 51 = .ok (.iconst 1, 1) := by decide +kernel
theorem dX11_anyTown_52 : decode cX11_anyTown 52 = .ok (.ireturn, 1) := by decide +kernel
theorem dX11_anyTown_53 : decode cX11_anyTown 53 = .ok (.iinc 3 1, 3) := by decide +kernel
theorem dX11_anyTown_56 : decode cX11_anyTown 56 = .ok (.goto (-54), 3) := by decide +kernel
theorem dX11_anyTown_59 : decode cX11_anyTown 59 = .ok (.iconst 0, 1) := by decide +kernel
theorem dX11_anyTown_60 : decode cX11_anyTown 60 = .ok (.ireturn, 1) := by decide +kernel
theorem dX11_lackAt_0 : decode cX11_lackAt 0 = .ok (.iconst 0, 1) := by decide +kernel
theorem dX11_lackAt_1 : decode cX11_lackAt 1 = .ok (.istore 4, 2) := by decide +kernel
theorem dX11_lackAt_3 : decode cX11_lackAt 3 = .ok (.iconst 0, 1) := by decide +kernel
theorem dX11_lackAt_4 : decode cX11_lackAt 4 = .ok (.istore 5, 2) := by decide +kernel
theorem dX11_lackAt_6 : decode cX11_lackAt 6 = .ok (.iload 5, 2) := by decide +kernel
theorem dX11_lackAt_8 : decode cX11_lackAt 8 = .ok (.aload_n 0, 1) := by decide +kernel
theorem dX11_lackAt_9 : decode cX11_lackAt 9 = .ok (.getfield 19, 3) := by decide +kernel
theorem dX11_lackAt_12 : decode cX11_lackAt 12 = .ok (.getfield 122, 3) := by decide +kernel
theorem dX11_lackAt_15 : decode cX11_lackAt 15 = .ok (.getfield 264, 3) := by decide +kernel
theorem dX11_lackAt_18 : decode cX11_lackAt 18 = .ok (.if_icmp .ge 87, 3) := by decide +kernel
theorem dX11_lackAt_21 : decode cX11_lackAt 21 = .ok (.aload_n 0, 1) := by decide +kernel
theorem dX11_lackAt_22 : decode cX11_lackAt 22 = .ok (.getfield 19, 3) := by decide +kernel
theorem dX11_lackAt_25 : decode cX11_lackAt 25 = .ok (.getfield 147, 3) := by decide +kernel
theorem dX11_lackAt_28 : decode cX11_lackAt 28 = .ok (.getfield 162, 3) := by decide +kernel
theorem dX11_lackAt_31 : decode cX11_lackAt 31 = .ok (.iload 5, 2) := by decide +kernel
theorem dX11_lackAt_33 : decode cX11_lackAt 33 = .ok (.baload, 1) := by decide +kernel
theorem dX11_lackAt_34 : decode cX11_lackAt 34 = .ok (.ifCond .ne 65, 3) := by decide +kernel
theorem dX11_lackAt_37 : decode cX11_lackAt 37 = .ok (.aload_n 0, 1) := by decide +kernel
theorem dX11_lackAt_38 : decode cX11_lackAt 38 = .ok (.getfield 19, 3) := by decide +kernel
theorem dX11_lackAt_41 : decode cX11_lackAt 41 = .ok (.getfield 122, 3) := by decide +kernel
theorem dX11_lackAt_44 : decode cX11_lackAt 44 = .ok (.getfield 144, 3) := by decide +kernel
theorem dX11_lackAt_47 : decode cX11_lackAt 47 = .ok (.iload 5, 2) := by decide +kernel
theorem dX11_lackAt_49 : decode cX11_lackAt 49 = .ok (.iaload, 1) := by decide +kernel
theorem dX11_lackAt_50 : decode cX11_lackAt 50 = .ok (.iload_n 2, 1) := by decide +kernel
theorem dX11_lackAt_51 : decode cX11_lackAt 51 = .ok (.iload_n 3, 1) := by decide +kernel
theorem dX11_lackAt_52 : decode cX11_lackAt 52 = .ok (.invokestatic 111, 3) := by decide +kernel
theorem dX11_lackAt_55 : decode cX11_lackAt 55 = .ok (.ifCond .ne 6, 3) := by decide +kernel
theorem dX11_lackAt_58 : decode cX11_lackAt 58 = .ok (.goto 41, 3) := by decide +kernel
theorem dX11_lackAt_61 : decode cX11_lackAt 61 = .ok (.iload 4, 2) := by decide +kernel
theorem dX11_lackAt_63 : decode cX11_lackAt 63 = .ok (.iconst 0, 1) := by decide +kernel
theorem dX11_lackAt_64 : decode cX11_lackAt 64 = .ok (.aload_n 0, 1) := by decide +kernel
theorem dX11_lackAt_65 : decode cX11_lackAt 65 = .ok (.getfield 19, 3) := by decide +kernel
theorem dX11_lackAt_68 : decode cX11_lackAt 68 = .ok (.getfield 122, 3) := by decide +kernel
theorem dX11_lackAt_71 : decode cX11_lackAt 71 = .ok (.getfield 159, 3) := by decide +kernel
theorem dX11_lackAt_74 : decode cX11_lackAt 74 = .ok (.iload 5, 2) := by decide +kernel
theorem dX11_lackAt_76 : decode cX11_lackAt 76 = .ok (.iaload, 1) := by decide +kernel
theorem dX11_lackAt_77 : decode cX11_lackAt 77 = .ok (.iload_n 1, 1) := by decide +kernel
theorem dX11_lackAt_78 : decode cX11_lackAt 78 = .ok (.isub, 1) := by decide +kernel
theorem dX11_lackAt_79 : decode cX11_lackAt 79 = .ok (.invokestatic 304, 3) := by decide +kernel
theorem dX11_lackAt_82 : decode cX11_lackAt 82 = .ok (.aload_n 0, 1) := by decide +kernel
theorem dX11_lackAt_83 : decode cX11_lackAt 83 = .ok (.getfield 19, 3) := by decide +kernel
theorem dX11_lackAt_86 : decode cX11_lackAt 86 = .ok (.getfield 122, 3) := by decide +kernel
theorem dX11_lackAt_89 : decode cX11_lackAt 89 = .ok (.getfield 156, 3) := by decide +kernel
theorem dX11_lackAt_92 : decode cX11_lackAt 92 = .ok (.iload 5, 2) := by decide +kernel
theorem dX11_lackAt_94 : decode cX11_lackAt 94 = .ok (.iaload, 1) := by decide +kernel
theorem dX11_lackAt_95 : decode cX11_lackAt 95 = .ok (.isub, 1) := by decide +kernel
theorem dX11_lackAt_96 : decode cX11_lackAt 96 = .ok (.iadd, 1) := by decide +kernel
theorem dX11_lackAt_97 : decode cX11_lackAt 97 = .ok (.istore 4, 2) := by decide +kernel
theorem dX11_lackAt_99 : decode cX11_lackAt 99 = .ok (.iinc 5 1, 3) := by decide +kernel
theorem dX11_lackAt_102 : decode cX11_lackAt 102 = .ok (.goto (-96), 3) := by decide +kernel
theorem dX11_lackAt_105 : decode cX11_lackAt 105 = .ok (.iload 4, 2) := by decide +kernel
theorem dX11_lackAt_107 : decode cX11_lackAt 107 = .ok (.ireturn, 1) := by decide +kernel
theorem dX11_spreadOdds_0 : decode cX11_spreadOdds 0 = .ok (.iconst 0, 1) := by decide +kernel
theorem dX11_spreadOdds_1 : decode cX11_spreadOdds 1 = .ok (.istore 4, 2) := by decide +kernel
theorem dX11_spreadOdds_3 : decode cX11_spreadOdds 3 = .ok (.iload 4, 2) := by decide +kernel
theorem dX11_spreadOdds_5 : decode cX11_spreadOdds 5 = .ok (.bipush 9, 2) := by decide +kernel
theorem dX11_spreadOdds_7 : decode cX11_spreadOdds 7 = .ok (.if_icmp .gt 27, 3) := by decide +kernel
theorem dX11_spreadOdds_10 : decode cX11_spreadOdds 10 = .ok (.aload_n 0, 1) := by decide +kernel
theorem dX11_spreadOdds_11 : decode cX11_spreadOdds 11 = .ok (.getfield 77, 3) := by decide +kernel
theorem dX11_spreadOdds_14 : decode cX11_spreadOdds 14 = .ok (.iload 4, 2) := by decide +kernel
theorem dX11_spreadOdds_16 : decode cX11_spreadOdds 16 = .ok (.iload 4, 2) := by decide +kernel
theorem dX11_spreadOdds_18 : decode cX11_spreadOdds 18 = .ok (.iload_n 1, 1) := by decide +kernel
theorem dX11_spreadOdds_19 : decode cX11_spreadOdds 19 = .ok (.if_icmp .ne 7, 3) := by decide +kernel
theorem dX11_spreadOdds_22 : decode cX11_spreadOdds 22 = .ok (.lconst 1, 1) := by decide +kernel
theorem dX11_spreadOdds_23 : decode cX11_spreadOdds 23 = .ok (.goto 4, 3) := by decide +kernel
theorem dX11_spreadOdds_26 : decode cX11_spreadOdds 26 = .ok (.lconst 0, 1) := by decide +kernel
theorem dX11_spreadOdds_27 : decode cX11_spreadOdds 27 = .ok (.lastore, 1) := by decide +kernel
theorem dX11_spreadOdds_28 : decode cX11_spreadOdds 28 = .ok (.iinc 4 1, 3) := by decide +kernel
theorem dX11_spreadOdds_31 : decode cX11_spreadOdds 31 = .ok (.goto (-28), 3) := by decide +kernel
theorem dX11_spreadOdds_34 : decode cX11_spreadOdds 34 = .ok (.iconst 0, 1) := by decide +kernel
theorem dX11_spreadOdds_35 : decode cX11_spreadOdds 35 = .ok (.istore 4, 2) := by decide +kernel
theorem dX11_spreadOdds_37 : decode cX11_spreadOdds 37 = .ok (.iload 4, 2) := by decide +kernel
theorem dX11_spreadOdds_39 : decode cX11_spreadOdds 39 = .ok (.iload_n 2, 1) := by decide +kernel
theorem dX11_spreadOdds_40 : decode cX11_spreadOdds 40 = .ok (.if_icmp .ge 99, 3) := by decide +kernel
theorem dX11_spreadOdds_43 : decode cX11_spreadOdds 43 = .ok (.aload_n 0, 1) := by decide +kernel
theorem dX11_spreadOdds_44 : decode cX11_spreadOdds 44 = .ok (.getfield 77, 3) := by decide +kernel
theorem dX11_spreadOdds_47 : decode cX11_spreadOdds 47 = .ok (.iconst 0, 1) := by decide +kernel
theorem dX11_spreadOdds_48 : decode cX11_spreadOdds 48 = .ok (.aload_n 0, 1) := by decide +kernel
theorem dX11_spreadOdds_49 : decode cX11_spreadOdds 49 = .ok (.getfield 77, 3) := by decide +kernel
theorem dX11_spreadOdds_52 : decode cX11_spreadOdds 52 = .ok (.iconst 0, 1) := by decide +kernel
theorem dX11_spreadOdds_53 : decode cX11_spreadOdds 53 = .ok (.laload, 1) := by decide +kernel
theorem dX11_spreadOdds_54 : decode cX11_spreadOdds 54 = .ok (.ldc2_w 345, 3) := by decide +kernel
theorem dX11_spreadOdds_57 : decode cX11_spreadOdds 57 = .ok (.lmul, 1) := by decide +kernel
theorem dX11_spreadOdds_58 : decode cX11_spreadOdds 58 = .ok (.aload_n 0, 1) := by decide +kernel
theorem dX11_spreadOdds_59 : decode cX11_spreadOdds 59 = .ok (.getfield 77, 3) := by decide +kernel
theorem dX11_spreadOdds_62 : decode cX11_spreadOdds 62 = .ok (.iconst 1, 1) := by decide +kernel
theorem dX11_spreadOdds_63 : decode cX11_spreadOdds 63 = .ok (.laload, 1) := by decide +kernel
theorem dX11_spreadOdds_64 : decode cX11_spreadOdds 64 = .ok (.iload_n 3, 1) := by decide +kernel
theorem dX11_spreadOdds_65 : decode cX11_spreadOdds 65 = .ok (.i2l, 1) := by decide +kernel
theorem dX11_spreadOdds_66 : decode cX11_spreadOdds 66 = .ok (.lmul, 1) := by decide +kernel
theorem dX11_spreadOdds_67 : decode cX11_spreadOdds 67 = .ok (.ladd, 1) := by decide +kernel
theorem dX11_spreadOdds_68 : decode cX11_spreadOdds 68 = .ok (.lastore, 1) := by decide +kernel
theorem dX11_spreadOdds_69 : decode cX11_spreadOdds 69 = .ok (.iconst 1, 1) := by decide +kernel
theorem dX11_spreadOdds_70 : decode cX11_spreadOdds 70 = .ok (.istore 5, 2) := by decide +kernel
theorem dX11_spreadOdds_72 : decode cX11_spreadOdds 72 = .ok (.iload 5, 2) := by decide +kernel
theorem dX11_spreadOdds_74 : decode cX11_spreadOdds 74 = .ok (.bipush 9, 2) := by decide +kernel
theorem dX11_spreadOdds_76 : decode cX11_spreadOdds 76 = .ok (.if_icmp .gt 57, 3) := by decide +kernel
theorem dX11_spreadOdds_79 : decode cX11_spreadOdds 79 = .ok (.iload 5, 2) := by decide +kernel
theorem dX11_spreadOdds_81 : decode cX11_spreadOdds 81 = .ok (.bipush 9, 2) := by decide +kernel
theorem dX11_spreadOdds_83 : decode cX11_spreadOdds 83 = .ok (.if_icmp .ge 18, 3) := by decide +kernel
theorem dX11_spreadOdds_86 : decode cX11_spreadOdds 86 = .ok (.aload_n 0, 1) := by decide +kernel
theorem dX11_spreadOdds_87 : decode cX11_spreadOdds 87 = .ok (.getfield 77, 3) := by decide +kernel
theorem dX11_spreadOdds_90 : decode cX11_spreadOdds 90 = .ok (.iload 5, 2) := by decide +kernel
theorem dX11_spreadOdds_92 : decode cX11_spreadOdds 92 = .ok (.iconst 1, 1) := by decide +kernel
theorem dX11_spreadOdds_93 : decode cX11_spreadOdds 93 = .ok (.iadd, 1) := by decide +kernel
theorem dX11_spreadOdds_94 : decode cX11_spreadOdds 94 = .ok (.laload, 1) := by decide +kernel
theorem dX11_spreadOdds_95 : decode cX11_spreadOdds 95 = .ok (.iload_n 3, 1) := by decide +kernel
theorem dX11_spreadOdds_96 : decode cX11_spreadOdds 96 = .ok (.i2l, 1) := by decide +kernel
theorem dX11_spreadOdds_97 : decode cX11_spreadOdds 97 = .ok (.lmul, 1) := by decide +kernel
theorem dX11_spreadOdds_98 : decode cX11_spreadOdds 98 = .ok (.goto 4, 3) := by decide +kernel
theorem dX11_spreadOdds_101 : decode cX11_spreadOdds 101 = .ok (.lconst 0, 1) := by decide +kernel
theorem dX11_spreadOdds_102 : decode cX11_spreadOdds 102 = .ok (.lstore 6, 2) := by decide +kernel
theorem dX11_spreadOdds_104 : decode cX11_spreadOdds 104 = .ok (.aload_n 0, 1) := by decide +kernel
theorem dX11_spreadOdds_105 : decode cX11_spreadOdds 105 = .ok (.getfield 77, 3) := by decide +kernel
theorem dX11_spreadOdds_108 : decode cX11_spreadOdds 108 = .ok (.iload 5, 2) := by decide +kernel
theorem dX11_spreadOdds_110 : decode cX11_spreadOdds 110 = .ok (.aload_n 0, 1) := by decide +kernel
theorem dX11_spreadOdds_111 : decode cX11_spreadOdds 111 = .ok (.getfield 77, 3) := by decide +kernel
theorem dX11_spreadOdds_114 : decode cX11_spreadOdds 114 = .ok (.iload 5, 2) := by decide +kernel
theorem dX11_spreadOdds_116 : decode cX11_spreadOdds 116 = .ok (.laload, 1) := by decide +kernel
theorem dX11_spreadOdds_117 : decode cX11_spreadOdds 117 = .ok (.bipush 10, 2) := by decide +kernel
theorem dX11_spreadOdds_119 : decode cX11_spreadOdds 119 = .ok (.iload_n 3, 1) := by decide +kernel
theorem dX11_spreadOdds_120 : decode cX11_spreadOdds 120 = .ok (.isub, 1) := by decide +kernel
theorem dX11_spreadOdds_121 : decode cX11_spreadOdds 121 = .ok (.i2l, 1) := by decide +kernel
theorem dX11_spreadOdds_122 : decode cX11_spreadOdds 122 = .ok (.lmul, 1) := by decide +kernel
theorem dX11_spreadOdds_123 : decode cX11_spreadOdds 123 = .ok (.lload 6, 2) := by decide +kernel
theorem dX11_spreadOdds_125 : decode cX11_spreadOdds 125 = .ok (.ladd, 1) := by decide +kernel
theorem dX11_spreadOdds_126 : decode cX11_spreadOdds 126 = .ok (.lastore, 1) := by decide +kernel
theorem dX11_spreadOdds_127 : decode cX11_spreadOdds 127 = .ok (.iinc 5 1, 3) := by decide +kernel
theorem dX11_spreadOdds_130 : decode cX11_spreadOdds 130 = .ok (.goto (-58), 3) := by decide +kernel
theorem dX11_spreadOdds_133 : decode cX11_spreadOdds 133 = .ok (.iinc 4 1, 3) := by decide +kernel
theorem dX11_spreadOdds_136 : decode cX11_spreadOdds 136 = .ok (.goto (-99), 3) := by decide +kernel
theorem dX11_spreadOdds_139 : decode cX11_spreadOdds 139 = .ok (.return_, 1) := by decide +kernel
theorem dX11_commonDivisor_0 : decode cX11_commonDivisor 0 = .ok (.iconst 0, 1) := by decide +kernel
theorem dX11_commonDivisor_1 : decode cX11_commonDivisor 1 = .ok (.istore 4, 2) := by decide +kernel
theorem dX11_commonDivisor_3 : decode cX11_commonDivisor 3 = .ok (.lload_n 2, 1) := by decide +kernel
theorem dX11_commonDivisor_4 : decode cX11_commonDivisor 4 = .ok (.lconst 0, 1) := by decide +kernel
theorem dX11_commonDivisor_5 : decode cX11_commonDivisor 5 = .ok (.lcmp, 1) := by decide +kernel
theorem dX11_commonDivisor_6 : decode cX11_commonDivisor 6 = .ok (.ifCond .eq 27, 3) := by decide +kernel
theorem dX11_commonDivisor_9 : decode cX11_commonDivisor 9 = .ok (.iload 4, 2) := by decide +kernel
theorem dX11_commonDivisor_11 : decode cX11_commonDivisor 11 = .ok (.sipush 1000, 3) := by decide +kernel
theorem dX11_commonDivisor_14 : decode cX11_commonDivisor 14 = .ok (.if_icmp .ge 19, 3) := by decide +kernel
theorem dX11_commonDivisor_17 : decode cX11_commonDivisor 17 = .ok (.lload_n 0, 1) := by decide +kernel
theorem dX11_commonDivisor_18 : decode cX11_commonDivisor 18 = .ok (.lload_n 2, 1) := by decide +kernel
theorem dX11_commonDivisor_19 : decode cX11_commonDivisor 19 = .ok (.lrem, 1) := by decide +kernel
theorem dX11_commonDivisor_20 : decode cX11_commonDivisor 20 = .ok (.lstore 5, 2) := by decide +kernel
theorem dX11_commonDivisor_22 : decode cX11_commonDivisor 22 = .ok (.lload_n 2, 1) := by decide +kernel
theorem dX11_commonDivisor_23 : decode cX11_commonDivisor 23 = .ok (.lstore_n 0, 1) := by decide +kernel
theorem dX11_commonDivisor_24 : decode cX11_commonDivisor 24 = .ok (.lload 5, 2) := by decide +kernel
theorem dX11_commonDivisor_26 : decode cX11_commonDivisor 26 = .ok (.lstore_n 2, 1) := by decide +kernel
theorem dX11_commonDivisor_27 : decode cX11_commonDivisor 27 = .ok (.iinc 4 1, 3) := by decide +kernel
theorem dX11_commonDivisor_30 : decode cX11_commonDivisor 30 = .ok (.goto (-27), 3) := by decide +kernel
theorem dX11_commonDivisor_33 : decode cX11_commonDivisor 33 = .ok (.lload_n 0, 1) := by decide +kernel
theorem dX11_commonDivisor_34 : decode cX11_commonDivisor 34 = .ok (.lreturn, 1) := by decide +kernel
theorem dX11_putDrawn_0 : decode cX11_putDrawn 0 = .ok (.ldc2_w 347, 3) := by decide +kernel
theorem dX11_putDrawn_3 : decode cX11_putDrawn 3 = .ok (.iload_n 1, 1) := by decide +kernel
theorem dX11_putDrawn_4 : decode cX11_putDrawn 4 = .ok (.i2l, 1) := by decide +kernel
theorem dX11_putDrawn_5 : decode cX11_putDrawn 5 = .ok (.lmul, 1) := by decide +kernel
theorem dX11_putDrawn_6 : decode cX11_putDrawn 6 = .ok (.ldc2_w 349, 3) := by decide +kernel
theorem dX11_putDrawn_9 : decode cX11_putDrawn 9 = .ok (.iload_n 2, 1) := by decide +kernel
theorem dX11_putDrawn_10 : decode cX11_putDrawn 10 = .ok (.i2l, 1) := by decide +kernel
theorem dX11_putDrawn_11 : decode cX11_putDrawn 11 = .ok (.lmul, 1) := by decide +kernel
theorem dX11_putDrawn_12 : decode cX11_putDrawn 12 = .ok (.ladd, 1) := by decide +kernel
theorem dX11_putDrawn_13 : decode cX11_putDrawn 13 = .ok (.lconst 1, 1) := by decide +kernel
theorem dX11_putDrawn_14 : decode cX11_putDrawn 14 = .ok (.ladd, 1) := by decide +kernel
theorem dX11_putDrawn_15 : decode cX11_putDrawn 15 = .ok (.lstore_n 3, 1) := by decide +kernel
theorem dX11_putDrawn_16 : decode cX11_putDrawn 16 = .ok (.lload_n 3, 1) := by decide +kernel
theorem dX11_putDrawn_17 : decode cX11_putDrawn 17 = .ok (.lload_n 3, 1) := by decide +kernel
theorem dX11_putDrawn_18 : decode cX11_putDrawn 18 = .ok (.lmul, 1) := by decide +kernel
theorem dX11_putDrawn_19 : decode cX11_putDrawn 19 = .ok (.ldc2_w 351, 3) := by decide +kernel
theorem dX11_putDrawn_22 : decode cX11_putDrawn 22 = .ok (.lrem, 1) := by decide +kernel
theorem dX11_putDrawn_23 : decode cX11_putDrawn 23 = .ok (.l2i, 1) := by decide +kernel
theorem dX11_putDrawn_24 : decode cX11_putDrawn 24 = .ok (.istore 5, 2) := by decide +kernel
theorem dX11_putDrawn_26 : decode cX11_putDrawn 26 = .ok (.aload_n 0, 1) := by decide +kernel
theorem dX11_putDrawn_27 : decode cX11_putDrawn 27 = .ok (.getfield 19, 3) := by decide +kernel
theorem dX11_putDrawn_30 : decode cX11_putDrawn 30 = .ok (.getfield 122, 3) := by decide +kernel
theorem dX11_putDrawn_33 : decode cX11_putDrawn 33 = .ok (.getfield 125, 3) := by decide +kernel
theorem dX11_putDrawn_36 : decode cX11_putDrawn 36 = .ok (.iconst 1, 1) := by decide +kernel
theorem dX11_putDrawn_37 : decode cX11_putDrawn 37 = .ok (.if_icmp .ge 4, 3) := by decide +kernel
theorem dX11_putDrawn_40 : decode cX11_putDrawn 40 = .ok (.return_, 1) := by decide +kernel
theorem dX11_putDrawn_41 : decode cX11_putDrawn 41 = .ok (.aload_n 0, 1) := by decide +kernel
theorem dX11_putDrawn_42 : decode cX11_putDrawn 42 = .ok (.getfield 40, 3) := by decide +kernel
theorem dX11_putDrawn_45 : decode cX11_putDrawn 45 = .ok (.iload 5, 2) := by decide +kernel
theorem dX11_putDrawn_47 : decode cX11_putDrawn 47 = .ok (.aload_n 0, 1) := by decide +kernel
theorem dX11_putDrawn_48 : decode cX11_putDrawn 48 = .ok (.getfield 19, 3) := by decide +kernel
theorem dX11_putDrawn_51 : decode cX11_putDrawn 51 = .ok (.getfield 122, 3) := by decide +kernel
theorem dX11_putDrawn_54 : decode cX11_putDrawn 54 = .ok (.getfield 125, 3) := by decide +kernel
theorem dX11_putDrawn_57 : decode cX11_putDrawn 57 = .ok (.irem, 1) := by decide +kernel
theorem dX11_putDrawn_58 : decode cX11_putDrawn 58 = .ok (.aload_n 0, 1) := by decide +kernel
theorem dX11_putDrawn_59 : decode cX11_putDrawn 59 = .ok (.getfield 19, 3) := by decide +kernel
theorem dX11_putDrawn_62 : decode cX11_putDrawn 62 = .ok (.getfield 122, 3) := by decide +kernel
theorem dX11_putDrawn_65 : decode cX11_putDrawn 65 = .ok (.iload 5, 2) := by decide +kernel
theorem dX11_putDrawn_67 : decode cX11_putDrawn 67 = .ok (.bipush 8, 2) := by decide +kernel
theorem dX11_putDrawn_69 : decode cX11_putDrawn 69 = .ok (.idiv, 1) := by decide +kernel
theorem dX11_putDrawn_70 : decode cX11_putDrawn 70 = .ok (.invokevirtual 353, 3) := by decide +kernel
theorem dX11_putDrawn_73 : decode cX11_putDrawn 73 = .ok (.iload 5, 2) := by decide +kernel
theorem dX11_putDrawn_75 : decode cX11_putDrawn 75 = .ok (.sipush 256, 3) := by decide +kernel
theorem dX11_putDrawn_78 : decode cX11_putDrawn 78 = .ok (.idiv, 1) := by decide +kernel
theorem dX11_putDrawn_79 : decode cX11_putDrawn 79 = .ok (.bipush 10, 2) := by decide +kernel
theorem dX11_putDrawn_81 : decode cX11_putDrawn 81 = .ok (.irem, 1) := by decide +kernel
theorem dX11_putDrawn_82 : decode cX11_putDrawn 82 = .ok (.invokevirtual 294, 3) := by decide +kernel
theorem dX11_putDrawn_85 : decode cX11_putDrawn 85 = .ok (.return_, 1) := by decide +kernel
theorem dJ9_floorMod_7cf53_0 : decode cJ9_floorMod_7cf53 0 = .ok (.iload_n 0, 1) := by decide +kernel
theorem dJ9_floorMod_7cf53_1 : decode cJ9_floorMod_7cf53 1 = .ok (.iload_n 1, 1) := by decide +kernel
theorem dJ9_floorMod_7cf53_2 : decode cJ9_floorMod_7cf53 2 = .ok (.irem, 1) := by decide +kernel
theorem dJ9_floorMod_7cf53_3 : decode cJ9_floorMod_7cf53 3 = .ok (.istore_n 2, 1) := by decide +kernel
theorem dJ9_floorMod_7cf53_4 : decode cJ9_floorMod_7cf53 4 = .ok (.iload_n 0, 1) := by decide +kernel
theorem dJ9_floorMod_7cf53_5 : decode cJ9_floorMod_7cf53 5 = .ok (.iload_n 1, 1) := by decide +kernel
theorem dJ9_floorMod_7cf53_6 : decode cJ9_floorMod_7cf53 6 = .ok (.ixor, 1) := by decide +kernel
theorem dJ9_floorMod_7cf53_7 : decode cJ9_floorMod_7cf53 7 = .ok (.ifCond .ge 11, 3) := by decide +kernel
theorem dJ9_floorMod_7cf53_10 : decode cJ9_floorMod_7cf53 10 = .ok (.iload_n 2, 1) := by decide +kernel
theorem dJ9_floorMod_7cf53_11 : decode cJ9_floorMod_7cf53 11 = .ok (.ifCond .eq 7, 3) := by decide +kernel
theorem dJ9_floorMod_7cf53_14 : decode cJ9_floorMod_7cf53 14 = .ok (.iload_n 2, 1) := by decide +kernel
theorem dJ9_floorMod_7cf53_15 : decode cJ9_floorMod_7cf53 15 = .ok (.iload_n 1, 1) := by decide +kernel
theorem dJ9_floorMod_7cf53_16 : decode cJ9_floorMod_7cf53 16 = .ok (.iadd, 1) := by decide +kernel
theorem dJ9_floorMod_7cf53_17 : decode cJ9_floorMod_7cf53 17 = .ok (.ireturn, 1) := by decide +kernel
theorem dJ9_floorMod_7cf53_18 : decode cJ9_floorMod_7cf53 18 = .ok (.iload_n 2, 1) := by decide +kernel
theorem dJ9_floorMod_7cf53_19 : decode cJ9_floorMod_7cf53 19 = .ok (.ireturn, 1) := by decide +kernel
theorem dJ9_max_7cf53_0 : decode cJ9_max_7cf53 0 = .ok (.iload_n 0, 1) := by decide +kernel
theorem dJ9_max_7cf53_1 : decode cJ9_max_7cf53 1 = .ok (.iload_n 1, 1) := by decide +kernel
theorem dJ9_max_7cf53_2 : decode cJ9_max_7cf53 2 = .ok (.if_icmp .lt 7, 3) := by decide +kernel
theorem dJ9_max_7cf53_5 : decode cJ9_max_7cf53 5 = .ok (.iload_n 0, 1) := by decide +kernel
theorem dJ9_max_7cf53_6 : decode cJ9_max_7cf53 6 = .ok (.goto 4, 3) := by decide +kernel
theorem dJ9_max_7cf53_9 : decode cJ9_max_7cf53 9 = .ok (.iload_n 1, 1) := by decide +kernel
theorem dJ9_max_7cf53_10 : decode cJ9_max_7cf53 10 = .ok (.ireturn, 1) := by decide +kernel
theorem dJ0_length_8abf5_0 : decode cJ0_length_8abf5 0 = .ok (.aload_n 0, 1) := by decide +kernel
theorem dJ0_length_8abf5_1 : decode cJ0_length_8abf5 1 = .ok (.getfield 9, 3) := by decide +kernel
theorem dJ0_length_8abf5_4 : decode cJ0_length_8abf5 4 = .ok (.arraylength, 1) := by decide +kernel
theorem dJ0_length_8abf5_5 : decode cJ0_length_8abf5 5 = .ok (.aload_n 0, 1) := by decide +kernel
theorem dJ0_length_8abf5_6 : decode cJ0_length_8abf5 6 = .ok (.invokevirtual 335, 3) := by decide +kernel
theorem dJ0_length_8abf5_9 : decode cJ0_length_8abf5 9 = .ok (.ishr, 1) := by decide +kernel
theorem dJ0_length_8abf5_10 : decode cJ0_length_8abf5 10 = .ok (.ireturn, 1) := by decide +kernel
theorem dJ0_charAt_5068e_0 : decode cJ0_charAt_5068e 0 = .ok (.aload_n 0, 1) := by decide +kernel
theorem dJ0_charAt_5068e_1 : decode cJ0_charAt_5068e 1 = .ok (.invokevirtual 492, 3) := by decide +kernel
theorem dJ0_charAt_5068e_4 : decode cJ0_charAt_5068e 4 = .ok (.ifCond .eq 12, 3) := by decide +kernel
theorem dJ0_charAt_5068e_7 : decode cJ0_charAt_5068e 7 = .ok (.aload_n 0, 1) := by decide +kernel
theorem dJ0_charAt_5068e_8 : decode cJ0_charAt_5068e 8 = .ok (.getfield 9, 3) := by decide +kernel
theorem dJ0_charAt_5068e_11 : decode cJ0_charAt_5068e 11 = .ok (.iload_n 1, 1) := by decide +kernel
theorem dJ0_charAt_5068e_12 : decode cJ0_charAt_5068e 12 = .ok (.invokestatic 495, 3) := by decide +kernel
theorem dJ0_charAt_5068e_15 : decode cJ0_charAt_5068e 15 = .ok (.ireturn, 1) := by decide +kernel
theorem dJ0_charAt_5068e_16 : decode cJ0_charAt_5068e 16 = .ok (.aload_n 0, 1) := by decide +kernel
theorem dJ0_charAt_5068e_17 : decode cJ0_charAt_5068e 17 = .ok (.getfield 9, 3) := by decide +kernel
theorem dJ0_charAt_5068e_20 : decode cJ0_charAt_5068e 20 = .ok (.iload_n 1, 1) := by decide +kernel
theorem dJ0_charAt_5068e_21 : decode cJ0_charAt_5068e 21 = .ok (.invokestatic 498, 3) := by decide +kernel
theorem dJ0_charAt_5068e_24 : decode cJ0_charAt_5068e 24 = .ok (.ireturn, 1) := by decide +kernel
theorem dJ0_coder_7d493_0 : decode cJ0_coder_7d493 0 = .ok (.getstatic 38, 3) := by decide +kernel
theorem dJ0_coder_7d493_3 : decode cJ0_coder_7d493 3 = .ok (.ifCond .eq 10, 3) := by decide +kernel
theorem dJ0_coder_7d493_6 : decode cJ0_coder_7d493 6 = .ok (.aload_n 0, 1) := by decide +kernel
theorem dJ0_coder_7d493_7 : decode cJ0_coder_7d493 7 = .ok (.getfield 15, 3) := by decide +kernel
theorem dJ0_coder_7d493_10 : decode cJ0_coder_7d493 10 = .ok (.goto 4, 3) := by decide +kernel
theorem dJ0_coder_7d493_13 : decode cJ0_coder_7d493 13 = .ok (.iconst 1, 1) := by decide +kernel
theorem dJ0_coder_7d493_14 : decode cJ0_coder_7d493 14 = .ok (.ireturn, 1) := by decide +kernel
theorem dJ0_isLatin1_aae02_0 : decode cJ0_isLatin1_aae02 0 = .ok (.getstatic 38, 3) := by decide +kernel
theorem dJ0_isLatin1_aae02_3 : decode cJ0_isLatin1_aae02 3 = .ok (.ifCond .eq 14, 3) := by decide +kernel
theorem dJ0_isLatin1_aae02_6 : decode cJ0_isLatin1_aae02 6 = .ok (.aload_n 0, 1) := by decide +kernel
theorem dJ0_isLatin1_aae02_7 : decode cJ0_isLatin1_aae02 7 = .ok (.getfield 15, 3) := by decide +kernel
theorem dJ0_isLatin1_aae02_10 : decode cJ0_isLatin1_aae02 10 = .ok (.ifCond .ne 7, 3) := by decide +kernel
theorem dJ0_isLatin1_aae02_13 : decode cJ0_isLatin1_aae02 13 = .ok (.iconst 1, 1) := by decide +kernel
theorem dJ0_isLatin1_aae02_14 : decode cJ0_isLatin1_aae02 14 = .ok (.goto 4, 3) := by decide +kernel
theorem dJ0_isLatin1_aae02_17 : decode cJ0_isLatin1_aae02 17 = .ok (.iconst 0, 1) := by decide +kernel
theorem dJ0_isLatin1_aae02_18 : decode cJ0_isLatin1_aae02 18 = .ok (.ireturn, 1) := by decide +kernel
theorem dJ0_checkIndex_df160_0 : decode cJ0_checkIndex_df160 0 = .ok (.iload_n 0, 1) := by decide +kernel
theorem dJ0_checkIndex_df160_1 : decode cJ0_checkIndex_df160 1 = .ok (.iload_n 1, 1) := by decide +kernel
theorem dJ0_checkIndex_df160_2 : decode cJ0_checkIndex_df160 2 = .ok (.getstatic 1053, 3) := by decide +kernel
theorem dJ0_checkIndex_df160_5 : decode cJ0_checkIndex_df160 5 = .ok (.invokestatic 1059, 3) := by decide +kernel
theorem dJ0_checkIndex_df160_8 : decode cJ0_checkIndex_df160 8 = .ok (.pop, 1) := by decide +kernel
theorem dJ0_checkIndex_df160_9 : decode cJ0_checkIndex_df160 9 = .ok (.return_, 1) := by decide +kernel
theorem dJ1_charAt_3b067_0 : decode cJ1_charAt_3b067 0 = .ok (.iload_n 1, 1) := by decide +kernel
theorem dJ1_charAt_3b067_1 : decode cJ1_charAt_3b067 1 = .ok (.aload_n 0, 1) := by decide +kernel
theorem dJ1_charAt_3b067_2 : decode cJ1_charAt_3b067 2 = .ok (.arraylength, 1) := by decide +kernel
theorem dJ1_charAt_3b067_3 : decode cJ1_charAt_3b067 3 = .ok (.invokestatic 9, 3) := by decide +kernel
theorem dJ1_charAt_3b067_6 : decode cJ1_charAt_3b067 6 = .ok (.aload_n 0, 1) := by decide +kernel
theorem dJ1_charAt_3b067_7 : decode cJ1_charAt_3b067 7 = .ok (.iload_n 1, 1) := by decide +kernel
theorem dJ1_charAt_3b067_8 : decode cJ1_charAt_3b067 8 = .ok (.baload, 1) := by decide +kernel
theorem dJ1_charAt_3b067_9 : decode cJ1_charAt_3b067 9 = .ok (.sipush 255, 3) := by decide +kernel
theorem dJ1_charAt_3b067_12 : decode cJ1_charAt_3b067 12 = .ok (.iand, 1) := by decide +kernel
theorem dJ1_charAt_3b067_13 : decode cJ1_charAt_3b067 13 = .ok (.i2c, 1) := by decide +kernel
theorem dJ1_charAt_3b067_14 : decode cJ1_charAt_3b067 14 = .ok (.ireturn, 1) := by decide +kernel
theorem dJ2_getChar_3b067_0 : decode cJ2_getChar_3b067 0 = .ok (.getstatic 44, 3) := by decide +kernel
theorem dJ2_getChar_3b067_3 : decode cJ2_getChar_3b067 3 = .ok (.ifCond .ne 25, 3) := by decide +kernel
theorem dJ2_getChar_3b067_6 : decode cJ2_getChar_3b067 6 = .ok (.iload_n 1, 1) := by decide +kernel
theorem dJ2_getChar_3b067_7 : decode cJ2_getChar_3b067 7 = .ok (.ifCond .lt 11, 3) := by decide +kernel
theorem dJ2_getChar_3b067_10 : decode cJ2_getChar_3b067 10 = .ok (.iload_n 1, 1) := by decide +kernel
theorem dJ2_getChar_3b067_11 : decode cJ2_getChar_3b067 11 = .ok (.aload_n 0, 1) := by decide +kernel
theorem dJ2_getChar_3b067_12 : decode cJ2_getChar_3b067 12 = .ok (.invokestatic 48, 3) := by decide +kernel
theorem dJ2_getChar_3b067_15 : decode cJ2_getChar_3b067 15 = .ok (.if_icmp .lt 13, 3) := by decide +kernel
theorem dJ2_getChar_3b067_18 : decode cJ2_getChar_3b067 18 = .ok (.new 52, 3) := by decide +kernel
theorem dJ2_getChar_3b067_21 : decode cJ2_getChar_3b067 21 = .ok (.dup, 1) := by decide +kernel
theorem dJ2_getChar_3b067_22 : decode cJ2_getChar_3b067 22 = .ok (.ldc 54, 2) := by decide +kernel
theorem dJ2_getChar_3b067_24 : decode cJ2_getChar_3b067 24 = .ok (.invokespecial 56, 3) := by decide +kernel
theorem dJ2_getChar_3b067_27 : decode cJ2_getChar_3b067 27 = .ok (.athrow, 1) := by decide +kernel
theorem dJ2_getChar_3b067_28 : decode cJ2_getChar_3b067 28 = .ok (.iload_n 1, 1) := by decide +kernel
theorem dJ2_getChar_3b067_29 : decode cJ2_getChar_3b067 29 = .ok (.iconst 1, 1) := by decide +kernel
theorem dJ2_getChar_3b067_30 : decode cJ2_getChar_3b067 30 = .ok (.ishl, 1) := by decide +kernel
theorem dJ2_getChar_3b067_31 : decode cJ2_getChar_3b067 31 = .ok (.istore_n 1, 1) := by decide +kernel
theorem dJ2_getChar_3b067_32 : decode cJ2_getChar_3b067 32 = .ok (.aload_n 0, 1) := by decide +kernel
theorem dJ2_getChar_3b067_33 : decode cJ2_getChar_3b067 33 = .ok (.iload_n 1, 1) := by decide +kernel
theorem dJ2_getChar_3b067_34 : decode cJ2_getChar_3b067 34 = .ok (.iinc 1 1, 3) := by decide +kernel
theorem dJ2_getChar_3b067_37 : decode cJ2_getChar_3b067 37 = .ok (.baload, 1) := by decide +kernel
theorem dJ2_getChar_3b067_38 : decode cJ2_getChar_3b067 38 = .ok (.sipush 255, 3) := by decide +kernel
theorem dJ2_getChar_3b067_41 : decode cJ2_getChar_3b067 41 = .ok (.iand, 1) := by decide +kernel
theorem dJ2_getChar_3b067_42 : decode cJ2_getChar_3b067 42 = .ok (.getstatic 59, 3) := by decide +kernel
theorem dJ2_getChar_3b067_45 : decode cJ2_getChar_3b067 45 = .ok (.ishl, 1) := by decide +kernel
theorem dJ2_getChar_3b067_46 : decode cJ2_getChar_3b067 46 = .ok (.aload_n 0, 1) := by decide +kernel
theorem dJ2_getChar_3b067_47 : decode cJ2_getChar_3b067 47 = .ok (.iload_n 1, 1) := by decide +kernel
theorem dJ2_getChar_3b067_48 : decode cJ2_getChar_3b067 48 = .ok (.baload, 1) := by decide +kernel
theorem dJ2_getChar_3b067_49 : decode cJ2_getChar_3b067 49 = .ok (.sipush 255, 3) := by decide +kernel
theorem dJ2_getChar_3b067_52 : decode cJ2_getChar_3b067 52 = .ok (.iand, 1) := by decide +kernel
theorem dJ2_getChar_3b067_53 : decode cJ2_getChar_3b067 53 = .ok (.getstatic 63, 3) := by decide +kernel
theorem dJ2_getChar_3b067_56 : decode cJ2_getChar_3b067 56 = .ok (.ishl, 1) := by decide +kernel
theorem dJ2_getChar_3b067_57 : decode cJ2_getChar_3b067 57 = .ok (.ior, 1) := by decide +kernel
theorem dJ2_getChar_3b067_58 : decode cJ2_getChar_3b067 58 = .ok (.i2c, 1) := by decide +kernel
theorem dJ2_getChar_3b067_59 : decode cJ2_getChar_3b067 59 = .ok (.ireturn, 1) := by decide +kernel
theorem dJ2_length_9d52b_0 : decode cJ2_length_9d52b 0 = .ok (.aload_n 0, 1) := by decide +kernel
theorem dJ2_length_9d52b_1 : decode cJ2_length_9d52b 1 = .ok (.arraylength, 1) := by decide +kernel
theorem dJ2_length_9d52b_2 : decode cJ2_length_9d52b 2 = .ok (.iconst 1, 1) := by decide +kernel
theorem dJ2_length_9d52b_3 : decode cJ2_length_9d52b 3 = .ok (.ishr, 1) := by decide +kernel
theorem dJ2_length_9d52b_4 : decode cJ2_length_9d52b 4 = .ok (.ireturn, 1) := by decide +kernel
theorem dJ2_charAt_3b067_0 : decode cJ2_charAt_3b067 0 = .ok (.iload_n 1, 1) := by decide +kernel
theorem dJ2_charAt_3b067_1 : decode cJ2_charAt_3b067 1 = .ok (.aload_n 0, 1) := by decide +kernel
theorem dJ2_charAt_3b067_2 : decode cJ2_charAt_3b067 2 = .ok (.invokestatic 67, 3) := by decide +kernel
theorem dJ2_charAt_3b067_5 : decode cJ2_charAt_3b067 5 = .ok (.aload_n 0, 1) := by decide +kernel
theorem dJ2_charAt_3b067_6 : decode cJ2_charAt_3b067 6 = .ok (.iload_n 1, 1) := by decide +kernel
theorem dJ2_charAt_3b067_7 : decode cJ2_charAt_3b067 7 = .ok (.invokestatic 71, 3) := by decide +kernel
theorem dJ2_charAt_3b067_10 : decode cJ2_charAt_3b067 10 = .ok (.ireturn, 1) := by decide +kernel
theorem dJ2_checkIndex_2214a_0 : decode cJ2_checkIndex_2214a 0 = .ok (.iload_n 0, 1) := by decide +kernel
theorem dJ2_checkIndex_2214a_1 : decode cJ2_checkIndex_2214a 1 = .ok (.aload_n 1, 1) := by decide +kernel
theorem dJ2_checkIndex_2214a_2 : decode cJ2_checkIndex_2214a 2 = .ok (.invokestatic 48, 3) := by decide +kernel
theorem dJ2_checkIndex_2214a_5 : decode cJ2_checkIndex_2214a 5 = .ok (.invokestatic 414, 3) := by decide +kernel
theorem dJ2_checkIndex_2214a_8 : decode cJ2_checkIndex_2214a 8 = .ok (.return_, 1) := by decide +kernel
theorem dJ3_checkIndex_8e157_0 : decode cJ3_checkIndex_8e157 0 = .ok (.iload_n 0, 1) := by decide +kernel
theorem dJ3_checkIndex_8e157_1 : decode cJ3_checkIndex_8e157 1 = .ok (.ifCond .lt 8, 3) := by decide +kernel
theorem dJ3_checkIndex_8e157_4 : decode cJ3_checkIndex_8e157 4 = .ok (.iload_n 0, 1) := by decide +kernel
theorem dJ3_checkIndex_8e157_5 : decode cJ3_checkIndex_8e157 5 = .ok (.iload_n 1, 1) := by decide +kernel
theorem dJ3_checkIndex_8e157_6 : decode cJ3_checkIndex_8e157 6 = .ok (.if_icmp .lt 10, 3) := by decide +kernel
theorem dJ3_checkIndex_8e157_9 : decode cJ3_checkIndex_8e157 9 = .ok (.aload_n 2, 1) := by decide +kernel
theorem dJ3_checkIndex_8e157_10 : decode cJ3_checkIndex_8e157 10 = .ok (.iload_n 0, 1) := by decide +kernel
theorem dJ3_checkIndex_8e157_11 : decode cJ3_checkIndex_8e157 11 = .ok (.iload_n 1, 1) := by decide +kernel
theorem dJ3_checkIndex_8e157_12 : decode cJ3_checkIndex_8e157 12 = .ok (.invokestatic 95, 3) := by decide +kernel
theorem dJ3_checkIndex_8e157_15 : decode cJ3_checkIndex_8e157 15 = .ok (.athrow, 1) := by decide +kernel
theorem dJ3_checkIndex_8e157_16 : decode cJ3_checkIndex_8e157 16 = .ok (.iload_n 0, 1) := by decide +kernel
theorem dJ3_checkIndex_8e157_17 : decode cJ3_checkIndex_8e157 17 = .ok (.ireturn, 1) := by decide +kernel
