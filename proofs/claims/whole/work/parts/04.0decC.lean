theorem dX0_init_0 : decode cX0_init 0 = .ok (.aload_n 0, 1) := by decide +kernel
theorem dX0_init_1 : decode cX0_init 1 = .ok (.iload_n 1, 1) := by decide +kernel
theorem dX0_init_2 : decode cX0_init 2 = .ok (.invokespecial 1, 3) := by decide +kernel
theorem dX0_init_5 : decode cX0_init 5 = .ok (.return_, 1) := by decide +kernel
theorem dX0_weight_0 : decode cX0_weight 0 = .ok (.aload_n 0, 1) := by decide +kernel
theorem dX0_weight_1 : decode cX0_weight 1 = .ok (.iload_n 1, 1) := by decide +kernel
theorem dX0_weight_2 : decode cX0_weight 2 = .ok (.invokespecial 7, 3) := by decide +kernel
theorem dX0_weight_5 : decode cX0_weight 5 = .ok (.iconst 1, 1) := by decide +kernel
theorem dX0_weight_6 : decode cX0_weight 6 = .ok (.iadd, 1) := by decide +kernel
theorem dX0_weight_7 : decode cX0_weight 7 = .ok (.ireturn, 1) := by decide +kernel
theorem dX0_rolled_0 : decode cX0_rolled 0 = .ok (.aload_n 0, 1) := by decide +kernel
theorem dX0_rolled_1 : decode cX0_rolled 1 = .ok (.getfield 11, 3) := by decide +kernel
theorem dX0_rolled_4 : decode cX0_rolled 4 = .ok (.iload_n 1, 1) := by decide +kernel
theorem dX0_rolled_5 : decode cX0_rolled 5 = .ok (.ior, 1) := by decide +kernel
theorem dX0_rolled_6 : decode cX0_rolled 6 = .ok (.ireturn, 1) := by decide +kernel
theorem dX1_init_0 : decode cX1_init 0 = .ok (.aload_n 0, 1) := by decide +kernel
theorem dX1_init_1 : decode cX1_init 1 = .ok (.invokespecial 3, 3) := by decide +kernel
theorem dX1_init_4 : decode cX1_init 4 = .ok (.aload_n 0, 1) := by decide +kernel
theorem dX1_init_5 : decode cX1_init 5 = .ok (.sipush 200, 3) := by decide +kernel
theorem dX1_init_8 : decode cX1_init 8 = .ok (.newarray .int, 2) := by decide +kernel
theorem dX1_init_10 : decode cX1_init 10 = .ok (.putfield 9, 3) := by decide +kernel
theorem dX1_init_13 : decode cX1_init 13 = .ok (.aload_n 0, 1) := by decide +kernel
theorem dX1_init_14 : decode cX1_init 14 = .ok (.sipush 200, 3) := by decide +kernel
theorem dX1_init_17 : decode cX1_init 17 = .ok (.newarray .int, 2) := by decide +kernel
theorem dX1_init_19 : decode cX1_init 19 = .ok (.putfield 15, 3) := by decide +kernel
theorem dX1_init_22 : decode cX1_init 22 = .ok (.aload_n 0, 1) := by decide +kernel
theorem dX1_init_23 : decode cX1_init 23 = .ok (.sipush 200, 3) := by decide +kernel
theorem dX1_init_26 : decode cX1_init 26 = .ok (.newarray .int, 2) := by decide +kernel
theorem dX1_init_28 : decode cX1_init 28 = .ok (.putfield 18, 3) := by decide +kernel
theorem dX1_init_31 : decode cX1_init 31 = .ok (.aload_n 0, 1) := by decide +kernel
theorem dX1_init_32 : decode cX1_init 32 = .ok (.sipush 200, 3) := by decide +kernel
theorem dX1_init_35 : decode cX1_init 35 = .ok (.newarray .int, 2) := by decide +kernel
theorem dX1_init_37 : decode cX1_init 37 = .ok (.putfield 21, 3) := by decide +kernel
theorem dX1_init_40 : decode cX1_init 40 = .ok (.return_, 1) := by decide +kernel
theorem dX1_open_0 : decode cX1_open 0 = .ok (.aload_n 0, 1) := by decide +kernel
theorem dX1_open_1 : decode cX1_open 1 = .ok (.getfield 24, 3) := by decide +kernel
theorem dX1_open_4 : decode cX1_open 4 = .ok (.sipush 200, 3) := by decide +kernel
theorem dX1_open_7 : decode cX1_open 7 = .ok (.if_icmp .ge 54, 3) := by decide +kernel
theorem dX1_open_10 : decode cX1_open 10 = .ok (.aload_n 0, 1) := by decide +kernel
theorem dX1_open_11 : decode cX1_open 11 = .ok (.getfield 9, 3) := by decide +kernel
theorem dX1_open_14 : decode cX1_open 14 = .ok (.aload_n 0, 1) := by decide +kernel
theorem dX1_open_15 : decode cX1_open 15 = .ok (.getfield 24, 3) := by decide +kernel
theorem dX1_open_18 : decode cX1_open 18 = .ok (.iload_n 1, 1) := by decide +kernel
theorem dX1_open_19 : decode cX1_open 19 = .ok (.iastore, 1) := by decide +kernel
theorem dX1_open_20 : decode cX1_open 20 = .ok (.aload_n 0, 1) := by decide +kernel
theorem dX1_open_21 : decode cX1_open 21 = .ok (.getfield 15, 3) := by decide +kernel
theorem dX1_open_24 : decode cX1_open 24 = .ok (.aload_n 0, 1) := by decide +kernel
theorem dX1_open_25 : decode cX1_open 25 = .ok (.getfield 24, 3) := by decide +kernel
theorem dX1_open_28 : decode cX1_open 28 = .ok (.iload_n 2, 1) := by decide +kernel
theorem dX1_open_29 : decode cX1_open 29 = .ok (.iastore, 1) := by decide +kernel
theorem dX1_open_30 : decode cX1_open 30 = .ok (.aload_n 0, 1) := by decide +kernel
theorem dX1_open_31 : decode cX1_open 31 = .ok (.getfield 18, 3) := by decide +kernel
theorem dX1_open_34 : decode cX1_open 34 = .ok (.aload_n 0, 1) := by decide +kernel
theorem dX1_open_35 : decode cX1_open 35 = .ok (.getfield 24, 3) := by decide +kernel
theorem dX1_open_38 : decode cX1_open 38 = .ok (.iload_n 3, 1) := by decide +kernel
theorem dX1_open_39 : decode cX1_open 39 = .ok (.iastore, 1) := by decide +kernel
theorem dX1_open_40 : decode cX1_open 40 = .ok (.aload_n 0, 1) := by decide +kernel
theorem dX1_open_41 : decode cX1_open 41 = .ok (.getfield 21, 3) := by decide +kernel
theorem dX1_open_44 : decode cX1_open 44 = .ok (.aload_n 0, 1) := by decide +kernel
theorem dX1_open_45 : decode cX1_open 45 = .ok (.getfield 24, 3) := by decide +kernel
theorem dX1_open_48 : decode cX1_open 48 = .ok (.iload 4, 2) := by decide +kernel
theorem dX1_open_50 : decode cX1_open 50 = .ok (.iastore, 1) := by decide +kernel
theorem dX1_open_51 : decode cX1_open 51 = .ok (.aload_n 0, 1) := by decide +kernel
theorem dX1_open_52 : decode cX1_open 52 = .ok (.dup, 1) := by decide +kernel
theorem dX1_open_53 : decode cX1_open 53 = .ok (.getfield 24, 3) := by decide +kernel
theorem dX1_open_56 : decode cX1_open 56 = .ok (.iconst 1, 1) := by decide +kernel
theorem dX1_open_57 : decode cX1_open 57 = .ok (.iadd, 1) := by decide +kernel
theorem dX1_open_58 : decode cX1_open 58 = .ok (.putfield 24, 3) := by decide +kernel
theorem dX1_open_61 : decode cX1_open 61 = .ok (.return_, 1) := by decide +kernel
theorem dX1_drop_0 : decode cX1_drop 0 = .ok (.aload_n 0, 1) := by decide +kernel
theorem dX1_drop_1 : decode cX1_drop 1 = .ok (.getfield 24, 3) := by decide +kernel
theorem dX1_drop_4 : decode cX1_drop 4 = .ok (.ifCond .le 13, 3) := by decide +kernel
theorem dX1_drop_7 : decode cX1_drop 7 = .ok (.aload_n 0, 1) := by decide +kernel
theorem dX1_drop_8 : decode cX1_drop 8 = .ok (.dup, 1) := by decide +kernel
theorem dX1_drop_9 : decode cX1_drop 9 = .ok (.getfield 24, 3) := by decide +kernel
theorem dX1_drop_12 : decode cX1_drop 12 = .ok (.iconst 1, 1) := by decide +kernel
theorem dX1_drop_13 : decode cX1_drop 13 = .ok (.isub, 1) := by decide +kernel
theorem dX1_drop_14 : decode cX1_drop 14 = .ok (.putfield 24, 3) := by decide +kernel
theorem dX1_drop_17 : decode cX1_drop 17 = .ok (.return_, 1) := by decide +kernel
theorem dX1_innerStart_0 : decode cX1_innerStart 0 = .ok (.aload_n 0, 1) := by decide +kernel
theorem dX1_innerStart_1 : decode cX1_innerStart 1 = .ok (.getfield 24, 3) := by decide +kernel
theorem dX1_innerStart_4 : decode cX1_innerStart 4 = .ok (.ifCond .le 17, 3) := by decide +kernel
theorem dX1_innerStart_7 : decode cX1_innerStart 7 = .ok (.aload_n 0, 1) := by decide +kernel
theorem dX1_innerStart_8 : decode cX1_innerStart 8 = .ok (.getfield 9, 3) := by decide +kernel
theorem dX1_innerStart_11 : decode cX1_innerStart 11 = .ok (.aload_n 0, 1) := by decide +kernel
theorem dX1_innerStart_12 : decode cX1_innerStart 12 = .ok (.getfield 24, 3) := by decide +kernel
theorem dX1_innerStart_15 : decode cX1_innerStart 15 = .ok (.iconst 1, 1) := by decide +kernel
theorem dX1_innerStart_16 : decode cX1_innerStart 16 = .ok (.isub, 1) := by decide +kernel
theorem dX1_innerStart_17 : decode cX1_innerStart 17 = .ok (.iaload, 1) := by decide +kernel
theorem dX1_innerStart_18 : decode cX1_innerStart 18 = .ok (.goto 4, 3) := by decide +kernel
theorem dX1_innerStart_21 : decode cX1_innerStart 21 = .ok (.iconst 0, 1) := by decide +kernel
theorem dX1_innerStart_22 : decode cX1_innerStart 22 = .ok (.ireturn, 1) := by decide +kernel
theorem dX1_innerEnd_0 : decode cX1_innerEnd 0 = .ok (.aload_n 0, 1) := by decide +kernel
theorem dX1_innerEnd_1 : decode cX1_innerEnd 1 = .ok (.getfield 24, 3) := by decide +kernel
theorem dX1_innerEnd_4 : decode cX1_innerEnd 4 = .ok (.ifCond .le 17, 3) := by decide +kernel
theorem dX1_innerEnd_7 : decode cX1_innerEnd 7 = .ok (.aload_n 0, 1) := by decide +kernel
theorem dX1_innerEnd_8 : decode cX1_innerEnd 8 = .ok (.getfield 15, 3) := by decide +kernel
theorem dX1_innerEnd_11 : decode cX1_innerEnd 11 = .ok (.aload_n 0, 1) := by decide +kernel
theorem dX1_innerEnd_12 : decode cX1_innerEnd 12 = .ok (.getfield 24, 3) := by decide +kernel
theorem dX1_innerEnd_15 : decode cX1_innerEnd 15 = .ok (.iconst 1, 1) := by decide +kernel
theorem dX1_innerEnd_16 : decode cX1_innerEnd 16 = .ok (.isub, 1) := by decide +kernel
theorem dX1_innerEnd_17 : decode cX1_innerEnd 17 = .ok (.iaload, 1) := by decide +kernel
theorem dX1_innerEnd_18 : decode cX1_innerEnd 18 = .ok (.goto 6, 3) := by decide +kernel
theorem dX1_innerEnd_21 : decode cX1_innerEnd 21 = .ok (.sipush 256, 3) := by decide +kernel
theorem dX1_innerEnd_24 : decode cX1_innerEnd 24 = .ok (.ireturn, 1) := by decide +kernel
theorem dX1_innerCatch_0 : decode cX1_innerCatch 0 = .ok (.aload_n 0, 1) := by decide +kernel
theorem dX1_innerCatch_1 : decode cX1_innerCatch 1 = .ok (.getfield 24, 3) := by decide +kernel
theorem dX1_innerCatch_4 : decode cX1_innerCatch 4 = .ok (.ifCond .le 17, 3) := by decide +kernel
theorem dX1_innerCatch_7 : decode cX1_innerCatch 7 = .ok (.aload_n 0, 1) := by decide +kernel
theorem dX1_innerCatch_8 : decode cX1_innerCatch 8 = .ok (.getfield 21, 3) := by decide +kernel
theorem dX1_innerCatch_11 : decode cX1_innerCatch 11 = .ok (.aload_n 0, 1) := by decide +kernel
theorem dX1_innerCatch_12 : decode cX1_innerCatch 12 = .ok (.getfield 24, 3) := by decide +kernel
theorem dX1_innerCatch_15 : decode cX1_innerCatch 15 = .ok (.iconst 1, 1) := by decide +kernel
theorem dX1_innerCatch_16 : decode cX1_innerCatch 16 = .ok (.isub, 1) := by decide +kernel
theorem dX1_innerCatch_17 : decode cX1_innerCatch 17 = .ok (.iaload, 1) := by decide +kernel
theorem dX1_innerCatch_18 : decode cX1_innerCatch 18 = .ok (.goto 5, 3) := by decide +kernel
theorem dX1_innerCatch_21 : decode cX1_innerCatch 21 = .ok (.bipush 8, 2) := by decide +kernel
theorem dX1_innerCatch_23 : decode cX1_innerCatch 23 = .ok (.ireturn, 1) := by decide +kernel
theorem dX1_takeTurn_0 : decode cX1_takeTurn 0 = .ok (.aload_n 0, 1) := by decide +kernel
theorem dX1_takeTurn_1 : decode cX1_takeTurn 1 = .ok (.getfield 24, 3) := by decide +kernel
theorem dX1_takeTurn_4 : decode cX1_takeTurn 4 = .ok (.ifCond .eq 18, 3) := by decide +kernel
theorem dX1_takeTurn_7 : decode cX1_takeTurn 7 = .ok (.aload_n 0, 1) := by decide +kernel
theorem dX1_takeTurn_8 : decode cX1_takeTurn 8 = .ok (.getfield 18, 3) := by decide +kernel
theorem dX1_takeTurn_11 : decode cX1_takeTurn 11 = .ok (.aload_n 0, 1) := by decide +kernel
theorem dX1_takeTurn_12 : decode cX1_takeTurn 12 = .ok (.getfield 24, 3) := by decide +kernel
theorem dX1_takeTurn_15 : decode cX1_takeTurn 15 = .ok (.iconst 1, 1) := by decide +kernel
theorem dX1_takeTurn_16 : decode cX1_takeTurn 16 = .ok (.isub, 1) := by decide +kernel
theorem dX1_takeTurn_17 : decode cX1_takeTurn 17 = .ok (.iaload, 1) := by decide +kernel
theorem dX1_takeTurn_18 : decode cX1_takeTurn 18 = .ok (.iconst 1, 1) := by decide +kernel
theorem dX1_takeTurn_19 : decode cX1_takeTurn 19 = .ok (.if_icmp .gt 5, 3) := by decide +kernel
theorem dX1_takeTurn_22 : decode cX1_takeTurn 22 = .ok (.iconst 0, 1) := by decide +kernel
theorem dX1_takeTurn_23 : decode cX1_takeTurn 23 = .ok (.ireturn, 1) := by decide +kernel
theorem dX1_takeTurn_24 : decode cX1_takeTurn 24 = .ok (.aload_n 0, 1) := by decide +kernel
theorem dX1_takeTurn_25 : decode cX1_takeTurn 25 = .ok (.getfield 18, 3) := by decide +kernel
theorem dX1_takeTurn_28 : decode cX1_takeTurn 28 = .ok (.aload_n 0, 1) := by decide +kernel
theorem dX1_takeTurn_29 : decode cX1_takeTurn 29 = .ok (.getfield 24, 3) := by decide +kernel
theorem dX1_takeTurn_32 : decode cX1_takeTurn 32 = .ok (.iconst 1, 1) := by decide +kernel
theorem dX1_takeTurn_33 : decode cX1_takeTurn 33 = .ok (.isub, 1) := by decide +kernel
theorem dX1_takeTurn_34 : decode cX1_takeTurn 34 = .ok (.dup2, 1) := by decide +kernel
theorem dX1_takeTurn_35 : decode cX1_takeTurn 35 = .ok (.iaload, 1) := by decide +kernel
theorem dX1_takeTurn_36 : decode cX1_takeTurn 36 = .ok (.iconst 1, 1) := by decide +kernel
theorem dX1_takeTurn_37 : decode cX1_takeTurn 37 = .ok (.isub, 1) := by decide +kernel
theorem dX1_takeTurn_38 : decode cX1_takeTurn 38 = .ok (.iastore, 1) := by decide +kernel
theorem dX1_takeTurn_39 : decode cX1_takeTurn 39 = .ok (.iconst 1, 1) := by decide +kernel
theorem dX1_takeTurn_40 : decode cX1_takeTurn 40 = .ok (.ireturn, 1) := by decide +kernel
theorem dX2_init_0 : decode cX2_init 0 = .ok (.aload_n 0, 1) := by decide +kernel
theorem dX2_init_1 : decode cX2_init 1 = .ok (.invokespecial 1, 3) := by decide +kernel
theorem dX2_init_4 : decode cX2_init 4 = .ok (.aload_n 0, 1) := by decide +kernel
theorem dX2_init_5 : decode cX2_init 5 = .ok (.iload_n 1, 1) := by decide +kernel
theorem dX2_init_6 : decode cX2_init 6 = .ok (.putfield 7, 3) := by decide +kernel
theorem dX2_init_9 : decode cX2_init 9 = .ok (.return_, 1) := by decide +kernel
theorem dX3_init_0 : decode cX3_init 0 = .ok (.aload_n 0, 1) := by decide +kernel
theorem dX3_init_1 : decode cX3_init 1 = .ok (.iload_n 1, 1) := by decide +kernel
theorem dX3_init_2 : decode cX3_init 2 = .ok (.invokespecial 3, 3) := by decide +kernel
theorem dX3_init_5 : decode cX3_init 5 = .ok (.aload_n 0, 1) := by decide +kernel
theorem dX3_init_6 : decode cX3_init 6 = .ok (.iload_n 1, 1) := by decide +kernel
theorem dX3_init_7 : decode cX3_init 7 = .ok (.putfield 9, 3) := by decide +kernel
theorem dX3_init_10 : decode cX3_init 10 = .ok (.return_, 1) := by decide +kernel
theorem dX3_isOf_0 : decode cX3_isOf 0 = .ok (.iload_n 1, 1) := by decide +kernel
theorem dX3_isOf_1 : decode cX3_isOf 1 = .ok (.bipush 12, 2) := by decide +kernel
theorem dX3_isOf_3 : decode cX3_isOf 3 = .ok (.if_icmp .eq 15, 3) := by decide +kernel
theorem dX3_isOf_6 : decode cX3_isOf 6 = .ok (.iload_n 1, 1) := by decide +kernel
theorem dX3_isOf_7 : decode cX3_isOf 7 = .ok (.bipush 13, 2) := by decide +kernel
theorem dX3_isOf_9 : decode cX3_isOf 9 = .ok (.if_icmp .eq 9, 3) := by decide +kernel
theorem dX3_isOf_12 : decode cX3_isOf 12 = .ok (.iload_n 1, 1) := by decide +kernel
theorem dX3_isOf_13 : decode cX3_isOf 13 = .ok (.bipush 14, 2) := by decide +kernel
theorem dX3_isOf_15 : decode cX3_isOf 15 = .ok (.if_icmp .ne 7, 3) := by decide +kernel
theorem dX3_isOf_18 : decode cX3_isOf 18 = .ok (.iconst 1, 1) := by decide +kernel
theorem dX3_isOf_19 : decode cX3_isOf 19 = .ok (.goto 4, 3) := by decide +kernel
theorem dX3_isOf_22 : decode cX3_isOf 22 = .ok (.iconst 0, 1) := by decide +kernel
theorem dX3_isOf_23 : decode cX3_isOf 23 = .ok (.ireturn, 1) := by decide +kernel
theorem dX3_weight_0 : decode cX3_weight 0 = .ok (.aload_n 0, 1) := by decide +kernel
theorem dX3_weight_1 : decode cX3_weight 1 = .ok (.getfield 15, 3) := by decide +kernel
theorem dX3_weight_4 : decode cX3_weight 4 = .ok (.iconst 5, 1) := by decide +kernel
theorem dX3_weight_5 : decode cX3_weight 5 = .ok (.imul, 1) := by decide +kernel
theorem dX3_weight_6 : decode cX3_weight 6 = .ok (.iload_n 1, 1) := by decide +kernel
theorem dX3_weight_7 : decode cX3_weight 7 = .ok (.isub, 1) := by decide +kernel
theorem dX3_weight_8 : decode cX3_weight 8 = .ok (.ireturn, 1) := by decide +kernel
theorem dX3_rolled_0 : decode cX3_rolled 0 = .ok (.aload_n 0, 1) := by decide +kernel
theorem dX3_rolled_1 : decode cX3_rolled 1 = .ok (.getfield 15, 3) := by decide +kernel
theorem dX3_rolled_4 : decode cX3_rolled 4 = .ok (.iload_n 1, 1) := by decide +kernel
theorem dX3_rolled_5 : decode cX3_rolled 5 = .ok (.ixor, 1) := by decide +kernel
theorem dX3_rolled_6 : decode cX3_rolled 6 = .ok (.ireturn, 1) := by decide +kernel
theorem dX4_init_0 : decode cX4_init 0 = .ok (.aload_n 0, 1) := by decide +kernel
theorem dX4_init_1 : decode cX4_init 1 = .ok (.invokespecial 3, 3) := by decide +kernel
theorem dX4_init_4 : decode cX4_init 4 = .ok (.aload_n 0, 1) := by decide +kernel
theorem dX4_init_5 : decode cX4_init 5 = .ok (.iload_n 1, 1) := by decide +kernel
theorem dX4_init_6 : decode cX4_init 6 = .ok (.putfield 9, 3) := by decide +kernel
theorem dX4_init_9 : decode cX4_init 9 = .ok (.return_, 1) := by decide +kernel
theorem dX4_isOf_0 : decode cX4_isOf 0 = .ok (.iload_n 1, 1) := by decide +kernel
theorem dX4_isOf_1 : decode cX4_isOf 1 = .ok (.bipush 14, 2) := by decide +kernel
theorem dX4_isOf_3 : decode cX4_isOf 3 = .ok (.if_icmp .ne 7, 3) := by decide +kernel
theorem dX4_isOf_6 : decode cX4_isOf 6 = .ok (.iconst 1, 1) := by decide +kernel
theorem dX4_isOf_7 : decode cX4_isOf 7 = .ok (.goto 4, 3) := by decide +kernel
theorem dX4_isOf_10 : decode cX4_isOf 10 = .ok (.iconst 0, 1) := by decide +kernel
theorem dX4_isOf_11 : decode cX4_isOf 11 = .ok (.ireturn, 1) := by decide +kernel
theorem dX4_rolled_0 : decode cX4_rolled 0 = .ok (.aload_n 0, 1) := by decide +kernel
theorem dX4_rolled_1 : decode cX4_rolled 1 = .ok (.getfield 9, 3) := by decide +kernel
theorem dX4_rolled_4 : decode cX4_rolled 4 = .ok (.iload_n 1, 1) := by decide +kernel
theorem dX4_rolled_5 : decode cX4_rolled 5 = .ok (.iand, 1) := by decide +kernel
theorem dX4_rolled_6 : decode cX4_rolled 6 = .ok (.ireturn, 1) := by decide +kernel
theorem dX5_init_0 : decode cX5_init 0 = .ok (.aload_n 0, 1) := by decide +kernel
theorem dX5_init_1 : decode cX5_init 1 = .ok (.invokespecial 3, 3) := by decide +kernel
theorem dX5_init_4 : decode cX5_init 4 = .ok (.aload_n 0, 1) := by decide +kernel
theorem dX5_init_5 : decode cX5_init 5 = .ok (.iload_n 1, 1) := by decide +kernel
theorem dX5_init_6 : decode cX5_init 6 = .ok (.putfield 9, 3) := by decide +kernel
theorem dX5_init_9 : decode cX5_init 9 = .ok (.return_, 1) := by decide +kernel
theorem dX5_isOf_0 : decode cX5_isOf 0 = .ok (.iload_n 1, 1) := by decide +kernel
theorem dX5_isOf_1 : decode cX5_isOf 1 = .ok (.bipush 15, 2) := by decide +kernel
theorem dX5_isOf_3 : decode cX5_isOf 3 = .ok (.if_icmp .ne 7, 3) := by decide +kernel
theorem dX5_isOf_6 : decode cX5_isOf 6 = .ok (.iconst 1, 1) := by decide +kernel
theorem dX5_isOf_7 : decode cX5_isOf 7 = .ok (.goto 4, 3) := by decide +kernel
theorem dX5_isOf_10 : decode cX5_isOf 10 = .ok (.iconst 0, 1) := by decide +kernel
theorem dX5_isOf_11 : decode cX5_isOf 11 = .ok (.ireturn, 1) := by decide +kernel
theorem dX7_init_0 : decode cX7_init 0 = .ok (.aload_n 0, 1) := by decide +kernel
theorem dX7_init_1 : decode cX7_init 1 = .ok (.invokespecial 3, 3) := by decide +kernel
theorem dX7_init_4 : decode cX7_init 4 = .ok (.aload_n 0, 1) := by decide +kernel
theorem dX7_init_5 : decode cX7_init 5 = .ok (.iload_n 1, 1) := by decide +kernel
theorem dX7_init_6 : decode cX7_init 6 = .ok (.putfield 9, 3) := by decide +kernel
theorem dX7_init_9 : decode cX7_init 9 = .ok (.aload_n 0, 1) := by decide +kernel
theorem dX7_init_10 : decode cX7_init 10 = .ok (.iload_n 2, 1) := by decide +kernel
theorem dX7_init_11 : decode cX7_init 11 = .ok (.newarray .long, 2) := by decide +kernel
theorem dX7_init_13 : decode cX7_init 13 = .ok (.putfield 15, 3) := by decide +kernel
theorem dX7_init_16 : decode cX7_init 16 = .ok (.return_, 1) := by decide +kernel
theorem dX7_isOf_0 : decode cX7_isOf 0 = .ok (.iload_n 1, 1) := by decide +kernel
theorem dX7_isOf_1 : decode cX7_isOf 1 = .ok (.aload_n 0, 1) := by decide +kernel
theorem dX7_isOf_2 : decode cX7_isOf 2 = .ok (.getfield 9, 3) := by decide +kernel
theorem dX7_isOf_5 : decode cX7_isOf 5 = .ok (.if_icmp .ne 7, 3) := by decide +kernel
theorem dX7_isOf_8 : decode cX7_isOf 8 = .ok (.iconst 1, 1) := by decide +kernel
theorem dX7_isOf_9 : decode cX7_isOf 9 = .ok (.goto 4, 3) := by decide +kernel
theorem dX7_isOf_12 : decode cX7_isOf 12 = .ok (.iconst 0, 1) := by decide +kernel
theorem dX7_isOf_13 : decode cX7_isOf 13 = .ok (.ireturn, 1) := by decide +kernel
theorem dX7_asCell_0 : decode cX7_asCell 0 = .ok (.aload_n 0, 1) := by decide +kernel
theorem dX7_asCell_1 : decode cX7_asCell 1 = .ok (.getfield 9, 3) := by decide +kernel
theorem dX7_asCell_4 : decode cX7_asCell 4 = .ok (.tableswitch 81 0 6 #[44, 48, 50, 55, 60, 65, 77], 44) := by decide +kernel
theorem dX7_asCell_48 : decode cX7_asCell 48 = .ok (.lload_n 1, 1) := by decide +kernel
theorem dX7_asCell_49 : decode cX7_asCell 49 = .ok (.l2i, 1) := by decide +kernel
theorem dX7_asCell_50 : decode cX7_asCell 50 = .ok (.i2l, 1) := by decide +kernel
theorem dX7_asCell_51 : decode cX7_asCell 51 = .ok (.lreturn, 1) := by decide +kernel
theorem dX7_asCell_52 : decode cX7_asCell 52 = .ok (.lload_n 1, 1) := by decide +kernel
theorem dX7_asCell_53 : decode cX7_asCell 53 = .ok (.lreturn, 1) := by decide +kernel
theorem dX7_asCell_54 : decode cX7_asCell 54 = .ok (.lload_n 1, 1) := by decide +kernel
theorem dX7_asCell_55 : decode cX7_asCell 55 = .ok (.l2i, 1) := by decide +kernel
theorem dX7_asCell_56 : decode cX7_asCell 56 = .ok (.i2s, 1) := by decide +kernel
theorem dX7_asCell_57 : decode cX7_asCell 57 = .ok (.i2l, 1) := by decide +kernel
theorem dX7_asCell_58 : decode cX7_asCell 58 = .ok (.lreturn, 1) := by decide +kernel
theorem dX7_asCell_59 : decode cX7_asCell 59 = .ok (.lload_n 1, 1) := by decide +kernel
theorem dX7_asCell_60 : decode cX7_asCell 60 = .ok (.l2i, 1) := by decide +kernel
theorem dX7_asCell_61 : decode cX7_asCell 61 = .ok (.i2b, 1) := by decide +kernel
theorem dX7_asCell_62 : decode cX7_asCell 62 = .ok (.i2l, 1) := by decide +kernel
theorem dX7_asCell_63 : decode cX7_asCell 63 = .ok (.lreturn, 1) := by decide +kernel
theorem dX7_asCell_64 : decode cX7_asCell 64 = .ok (.lload_n 1, 1) := by decide +kernel
theorem dX7_asCell_65 : decode cX7_asCell 65 = .ok (.l2i, 1) := by decide +kernel
theorem dX7_asCell_66 : decode cX7_asCell 66 = .ok (.i2c, 1) := by decide +kernel
theorem dX7_asCell_67 : decode cX7_asCell 67 = .ok (.i2l, 1) := by decide +kernel
theorem dX7_asCell_68 : decode cX7_asCell 68 = .ok (.lreturn, 1) := by decide +kernel
theorem dX7_asCell_69 : decode cX7_asCell 69 = .ok (.lload_n 1, 1) := by decide +kernel
theorem dX7_asCell_70 : decode cX7_asCell 70 = .ok (.lconst 0, 1) := by decide +kernel
theorem dX7_asCell_71 : decode cX7_asCell 71 = .ok (.lcmp, 1) := by decide +kernel
theorem dX7_asCell_72 : decode cX7_asCell 72 = .ok (.ifCond .eq 7, 3) := by decide +kernel
theorem dX7_asCell_75 : decode cX7_asCell 75 = .ok (.lconst 1, 1) := by decide +kernel
theorem dX7_asCell_76 : decode cX7_asCell 76 = .ok (.goto 4, 3) := by decide +kernel
theorem dX7_asCell_79 : decode cX7_asCell 79 = .ok (.lconst 0, 1) := by decide +kernel
theorem dX7_asCell_80 : decode cX7_asCell 80 = .ok (.lreturn, 1) := by decide +kernel
theorem dX7_asCell_81 : decode cX7_asCell 81 = .ok (.lload_n 1, 1) := by decide +kernel
theorem dX7_asCell_82 : decode cX7_asCell 82 = .ok (.l2f, 1) := by decide +kernel
theorem dX7_asCell_83 : decode cX7_asCell 83 = .ok (.f2l, 1) := by decide +kernel
theorem dX7_asCell_84 : decode cX7_asCell 84 = .ok (.lreturn, 1) := by decide +kernel
theorem dX7_asCell_85 : decode cX7_asCell 85 = .ok (.lload_n 1, 1) := by decide +kernel
theorem dX7_asCell_86 : decode cX7_asCell 86 = .ok (.l2d, 1) := by decide +kernel
theorem dX7_asCell_87 : decode cX7_asCell 87 = .ok (.d2l, 1) := by decide +kernel
theorem dX7_asCell_88 : decode cX7_asCell 88 = .ok (.lreturn, 1) := by decide +kernel
theorem dX8_init_0 : decode cX8_init 0 = .ok (.aload_n 0, 1) := by decide +kernel
theorem dX8_init_1 : decode cX8_init 1 = .ok (.invokespecial 3, 3) := by decide +kernel
theorem dX8_init_4 : decode cX8_init 4 = .ok (.aload_n 0, 1) := by decide +kernel
theorem dX8_init_5 : decode cX8_init 5 = .ok (.iload_n 1, 1) := by decide +kernel
theorem dX8_init_6 : decode cX8_init 6 = .ok (.putfield 9, 3) := by decide +kernel
theorem dX8_init_9 : decode cX8_init 9 = .ok (.aload_n 0, 1) := by decide +kernel
theorem dX8_init_10 : decode cX8_init 10 = .ok (.iload_n 2, 1) := by decide +kernel
theorem dX8_init_11 : decode cX8_init 11 = .ok (.putfield 15, 3) := by decide +kernel
theorem dX8_init_14 : decode cX8_init 14 = .ok (.aload_n 0, 1) := by decide +kernel
theorem dX8_init_15 : decode cX8_init 15 = .ok (.iload_n 3, 1) := by decide +kernel
theorem dX8_init_16 : decode cX8_init 16 = .ok (.anewarray 4, 3) := by decide +kernel
theorem dX8_init_19 : decode cX8_init 19 = .ok (.putfield 18, 3) := by decide +kernel
theorem dX8_init_22 : decode cX8_init 22 = .ok (.return_, 1) := by decide +kernel
theorem dX8_isOf_0 : decode cX8_isOf 0 = .ok (.iload_n 1, 1) := by decide +kernel
theorem dX8_isOf_1 : decode cX8_isOf 1 = .ok (.aload_n 0, 1) := by decide +kernel
theorem dX8_isOf_2 : decode cX8_isOf 2 = .ok (.getfield 9, 3) := by decide +kernel
theorem dX8_isOf_5 : decode cX8_isOf 5 = .ok (.if_icmp .eq 18, 3) := by decide +kernel
theorem dX8_isOf_8 : decode cX8_isOf 8 = .ok (.iload_n 1, 1) := by decide +kernel
theorem dX8_isOf_9 : decode cX8_isOf 9 = .ok (.bipush 9, 2) := by decide +kernel
theorem dX8_isOf_11 : decode cX8_isOf 11 = .ok (.if_icmp .ne 16, 3) := by decide +kernel
theorem dX8_isOf_14 : decode cX8_isOf 14 = .ok (.aload_n 0, 1) := by decide +kernel
theorem dX8_isOf_15 : decode cX8_isOf 15 = .ok (.getfield 9, 3) := by decide +kernel
theorem dX8_isOf_18 : decode cX8_isOf 18 = .ok (.bipush 10, 2) := by decide +kernel
theorem dX8_isOf_20 : decode cX8_isOf 20 = .ok (.if_icmp .ne 7, 3) := by decide +kernel
theorem dX8_isOf_23 : decode cX8_isOf 23 = .ok (.iconst 1, 1) := by decide +kernel
theorem dX8_isOf_24 : decode cX8_isOf 24 = .ok (.goto 4, 3) := by decide +kernel
theorem dX8_isOf_27 : decode cX8_isOf 27 = .ok (.iconst 0, 1) := by decide +kernel
theorem dX8_isOf_28 : decode cX8_isOf 28 = .ok (.ireturn, 1) := by decide +kernel
theorem dX8_takes_0 : decode cX8_takes 0 = .ok (.aload_n 1, 1) := by decide +kernel
theorem dX8_takes_1 : decode cX8_takes 1 = .ok (.ifnull 14, 3) := by decide +kernel
theorem dX8_takes_4 : decode cX8_takes 4 = .ok (.aload_n 1, 1) := by decide +kernel
theorem dX8_takes_5 : decode cX8_takes 5 = .ok (.aload_n 0, 1) := by decide +kernel
theorem dX8_takes_6 : decode cX8_takes 6 = .ok (.getfield 15, 3) := by decide +kernel
theorem dX8_takes_9 : decode cX8_takes 9 = .ok (.invokevirtual 22, 3) := by decide +kernel
theorem dX8_takes_12 : decode cX8_takes 12 = .ok (.ifCond .eq 7, 3) := by decide +kernel
theorem dX8_takes_15 : decode cX8_takes 15 = .ok (.iconst 1, 1) := by decide +kernel
theorem dX8_takes_16 : decode cX8_takes 16 = .ok (.goto 4, 3) := by decide +kernel
theorem dX8_takes_19 : decode cX8_takes 19 = .ok (.iconst 0, 1) := by decide +kernel
theorem dX8_takes_20 : decode cX8_takes 20 = .ok (.ireturn, 1) := by decide +kernel
theorem dX9_init_0 : decode cX9_init 0 = .ok (.aload_n 0, 1) := by decide +kernel
theorem dX9_init_1 : decode cX9_init 1 = .ok (.iload_n 1, 1) := by decide +kernel
theorem dX9_init_2 : decode cX9_init 2 = .ok (.invokespecial 3, 3) := by decide +kernel
theorem dX9_init_5 : decode cX9_init 5 = .ok (.return_, 1) := by decide +kernel
theorem dX9_isOf_0 : decode cX9_isOf 0 = .ok (.iload_n 1, 1) := by decide +kernel
theorem dX9_isOf_1 : decode cX9_isOf 1 = .ok (.bipush 12, 2) := by decide +kernel
theorem dX9_isOf_3 : decode cX9_isOf 3 = .ok (.if_icmp .ne 7, 3) := by decide +kernel
theorem dX9_isOf_6 : decode cX9_isOf 6 = .ok (.iconst 1, 1) := by decide +kernel
theorem dX9_isOf_7 : decode cX9_isOf 7 = .ok (.goto 4, 3) := by decide +kernel
theorem dX9_isOf_10 : decode cX9_isOf 10 = .ok (.iconst 0, 1) := by decide +kernel
theorem dX9_isOf_11 : decode cX9_isOf 11 = .ok (.ireturn, 1) := by decide +kernel
theorem dX9_weight_0 : decode cX9_weight 0 = .ok (.aload_n 0, 1) := by decide +kernel
theorem dX9_weight_1 : decode cX9_weight 1 = .ok (.getfield 9, 3) := by decide +kernel
theorem dX9_weight_4 : decode cX9_weight 4 = .ok (.iconst 3, 1) := by decide +kernel
theorem dX9_weight_5 : decode cX9_weight 5 = .ok (.imul, 1) := by decide +kernel
theorem dX9_weight_6 : decode cX9_weight 6 = .ok (.iload_n 1, 1) := by decide +kernel
theorem dX9_weight_7 : decode cX9_weight 7 = .ok (.iadd, 1) := by decide +kernel
theorem dX9_weight_8 : decode cX9_weight 8 = .ok (.ireturn, 1) := by decide +kernel
theorem dX10_init_0 : decode cX10_init 0 = .ok (.aload_n 0, 1) := by decide +kernel
theorem dX10_init_1 : decode cX10_init 1 = .ok (.invokespecial 1, 3) := by decide +kernel
theorem dX10_init_4 : decode cX10_init 4 = .ok (.return_, 1) := by decide +kernel
theorem dX11_init_0 : decode cX11_init 0 = .ok (.aload_n 0, 1) := by decide +kernel
theorem dX11_init_1 : decode cX11_init 1 = .ok (.invokespecial 1, 3) := by decide +kernel
theorem dX11_init_4 : decode cX11_init 4 = .ok (.aload_n 0, 1) := by decide +kernel
theorem dX11_init_5 : decode cX11_init 5 = .ok (.bipush 32, 2) := by decide +kernel
theorem dX11_init_7 : decode cX11_init 7 = .ok (.anewarray 9, 3) := by decide +kernel
theorem dX11_init_10 : decode cX11_init 10 = .ok (.putfield 11, 3) := by decide +kernel
theorem dX11_init_13 : decode cX11_init 13 = .ok (.aload_n 0, 1) := by decide +kernel
theorem dX11_init_14 : decode cX11_init 14 = .ok (.sipush 1024, 3) := by decide +kernel
theorem dX11_init_17 : decode cX11_init 17 = .ok (.newarray .int, 2) := by decide +kernel
theorem dX11_init_19 : decode cX11_init 19 = .ok (.putfield 15, 3) := by decide +kernel
theorem dX11_init_22 : decode cX11_init 22 = .ok (.iconst 0, 1) := by decide +kernel
theorem dX11_init_23 : decode cX11_init 23 = .ok (.istore_n 1, 1) := by decide +kernel
theorem dX11_init_24 : decode cX11_init 24 = .ok (.iload_n 1, 1) := by decide +kernel
theorem dX11_init_25 : decode cX11_init 25 = .ok (.sipush 256, 3) := by decide +kernel
theorem dX11_init_28 : decode cX11_init 28 = .ok (.if_icmp .ge 19, 3) := by decide +kernel
theorem dX11_init_31 : decode cX11_init 31 = .ok (.aload_n 0, 1) := by decide +kernel
theorem dX11_init_32 : decode cX11_init 32 = .ok (.getfield 15, 3) := by decide +kernel
theorem dX11_init_35 : decode cX11_init 35 = .ok (.iload_n 1, 1) := by decide +kernel
theorem dX11_init_36 : decode cX11_init 36 = .ok (.iconst 4, 1) := by decide +kernel
theorem dX11_init_37 : decode cX11_init 37 = .ok (.imul, 1) := by decide +kernel
theorem dX11_init_38 : decode cX11_init 38 = .ok (.bipush 40, 2) := by decide +kernel
theorem dX11_init_40 : decode cX11_init 40 = .ok (.iastore, 1) := by decide +kernel
theorem dX11_init_41 : decode cX11_init 41 = .ok (.iinc 1 1, 3) := by decide +kernel
theorem dX11_init_44 : decode cX11_init 44 = .ok (.goto (-20), 3) := by decide +kernel
theorem dX11_init_47 : decode cX11_init 47 = .ok (.aload_n 0, 1) := by decide +kernel
theorem dX11_init_48 : decode cX11_init 48 = .ok (.new 19, 3) := by decide +kernel
theorem dX11_init_51 : decode cX11_init 51 = .ok (.dup, 1) := by decide +kernel
theorem dX11_init_52 : decode cX11_init 52 = .ok (.invokespecial 21, 3) := by decide +kernel
theorem dX11_init_55 : decode cX11_init 55 = .ok (.putfield 22, 3) := by decide +kernel
theorem dX11_init_58 : decode cX11_init 58 = .ok (.aload_n 0, 1) := by decide +kernel
theorem dX11_init_59 : decode cX11_init 59 = .ok (.iconst (-1), 1) := by decide +kernel
theorem dX11_init_60 : decode cX11_init 60 = .ok (.putfield 26, 3) := by decide +kernel
theorem dX11_init_63 : decode cX11_init 63 = .ok (.return_, 1) := by decide +kernel
theorem dX11_op_0 : decode cX11_op 0 = .ok (.aload_n 0, 1) := by decide +kernel
theorem dX11_op_1 : decode cX11_op 1 = .ok (.iconst (-1), 1) := by decide +kernel
theorem dX11_op_2 : decode cX11_op 2 = .ok (.putfield 26, 3) := by decide +kernel
theorem dX11_op_5 : decode cX11_op 5 = .ok (.aload_n 0, 1) := by decide +kernel
theorem dX11_op_6 : decode cX11_op 6 = .ok (.iload_n 1, 1) := by decide +kernel
theorem dX11_op_7 : decode cX11_op 7 = .ok (.iload_n 2, 1) := by decide +kernel
theorem dX11_op_8 : decode cX11_op 8 = .ok (.iload_n 3, 1) := by decide +kernel
theorem dX11_op_9 : decode cX11_op 9 = .ok (.iload 4, 2) := by decide +kernel
theorem dX11_op_11 : decode cX11_op 11 = .ok (.invokevirtual 30, 3) := by decide +kernel
theorem dX11_op_14 : decode cX11_op 14 = .ok (.lstore 5, 2) := by decide +kernel
theorem dX11_op_16 : decode cX11_op 16 = .ok (.aload_n 0, 1) := by decide +kernel
theorem dX11_op_17 : decode cX11_op 17 = .ok (.invokevirtual 34, 3) := by decide +kernel
theorem dX11_op_20 : decode cX11_op 20 = .ok (.aload_n 0, 1) := by decide +kernel
theorem dX11_op_21 : decode cX11_op 21 = .ok (.dup, 1) := by decide +kernel
theorem dX11_op_22 : decode cX11_op 22 = .ok (.getfield 37, 3) := by decide +kernel
theorem dX11_op_25 : decode cX11_op 25 = .ok (.iconst 1, 1) := by decide +kernel
theorem dX11_op_26 : decode cX11_op 26 = .ok (.iadd, 1) := by decide +kernel
theorem dX11_op_27 : decode cX11_op 27 = .ok (.putfield 37, 3) := by decide +kernel
theorem dX11_op_30 : decode cX11_op 30 = .ok (.lload 5, 2) := by decide +kernel
theorem dX11_op_32 : decode cX11_op 32 = .ok (.lreturn, 1) := by decide +kernel
theorem dX11_load_0 : decode cX11_load 0 = .ok (.iload_n 1, 1) := by decide +kernel
theorem dX11_load_1 : decode cX11_load 1 = .ok (.ifCond .lt 10, 3) := by decide +kernel
theorem dX11_load_4 : decode cX11_load 4 = .ok (.iload_n 1, 1) := by decide +kernel
theorem dX11_load_5 : decode cX11_load 5 = .ok (.sipush 256, 3) := by decide +kernel
theorem dX11_load_8 : decode cX11_load 8 = .ok (.if_icmp .lt 13, 3) := by decide +kernel
theorem dX11_load_11 : decode cX11_load 11 = .ok (.new 40, 3) := by decide +kernel
theorem dX11_load_14 : decode cX11_load 14 = .ok (.dup, 1) := by decide +kernel
theorem dX11_load_15 : decode cX11_load 15 = .ok (.ldc 42, 2) := by decide +kernel
theorem dX11_load_17 : decode cX11_load 17 = .ok (.invokespecial 44, 3) := by decide +kernel
theorem dX11_load_20 : decode cX11_load 20 = .ok (.athrow, 1) := by decide +kernel
theorem dX11_load_21 : decode cX11_load 21 = .ok (.iload_n 1, 1) := by decide +kernel
theorem dX11_load_22 : decode cX11_load 22 = .ok (.iconst 4, 1) := by decide +kernel
theorem dX11_load_23 : decode cX11_load 23 = .ok (.imul, 1) := by decide +kernel
theorem dX11_load_24 : decode cX11_load 24 = .ok (.istore 6, 2) := by decide +kernel
theorem dX11_load_26 : decode cX11_load 26 = .ok (.aload_n 0, 1) := by decide +kernel
theorem dX11_load_27 : decode cX11_load 27 = .ok (.getfield 15, 3) := by decide +kernel
theorem dX11_load_30 : decode cX11_load 30 = .ok (.iload 6, 2) := by decide +kernel
theorem dX11_load_32 : decode cX11_load 32 = .ok (.iload_n 2, 1) := by decide +kernel
theorem dX11_load_33 : decode cX11_load 33 = .ok (.iastore, 1) := by decide +kernel
theorem dX11_load_34 : decode cX11_load 34 = .ok (.aload_n 0, 1) := by decide +kernel
theorem dX11_load_35 : decode cX11_load 35 = .ok (.getfield 15, 3) := by decide +kernel
theorem dX11_load_38 : decode cX11_load 38 = .ok (.iload 6, 2) := by decide +kernel
theorem dX11_load_40 : decode cX11_load 40 = .ok (.iconst 1, 1) := by decide +kernel
theorem dX11_load_41 : decode cX11_load 41 = .ok (.iadd, 1) := by decide +kernel
theorem dX11_load_42 : decode cX11_load 42 = .ok (.iload_n 3, 1) := by decide +kernel
theorem dX11_load_43 : decode cX11_load 43 = .ok (.iastore, 1) := by decide +kernel
theorem dX11_load_44 : decode cX11_load 44 = .ok (.aload_n 0, 1) := by decide +kernel
theorem dX11_load_45 : decode cX11_load 45 = .ok (.getfield 15, 3) := by decide +kernel
theorem dX11_load_48 : decode cX11_load 48 = .ok (.iload 6, 2) := by decide +kernel
theorem dX11_load_50 : decode cX11_load 50 = .ok (.iconst 2, 1) := by decide +kernel
theorem dX11_load_51 : decode cX11_load 51 = .ok (.iadd, 1) := by decide +kernel
theorem dX11_load_52 : decode cX11_load 52 = .ok (.iload 4, 2) := by decide +kernel
theorem dX11_load_54 : decode cX11_load 54 = .ok (.iastore, 1) := by decide +kernel
theorem dX11_load_55 : decode cX11_load 55 = .ok (.aload_n 0, 1) := by decide +kernel
theorem dX11_load_56 : decode cX11_load 56 = .ok (.getfield 15, 3) := by decide +kernel
theorem dX11_load_59 : decode cX11_load 59 = .ok (.iload 6, 2) := by decide +kernel
theorem dX11_load_61 : decode cX11_load 61 = .ok (.iconst 3, 1) := by decide +kernel
theorem dX11_load_62 : decode cX11_load 62 = .ok (.iadd, 1) := by decide +kernel
theorem dX11_load_63 : decode cX11_load 63 = .ok (.iload 5, 2) := by decide +kernel
theorem dX11_load_65 : decode cX11_load 65 = .ok (.iastore, 1) := by decide +kernel
theorem dX11_load_66 : decode cX11_load 66 = .ok (.iload_n 1, 1) := by decide +kernel
theorem dX11_load_67 : decode cX11_load 67 = .ok (.ireturn, 1) := by decide +kernel
theorem dX11_run_0 : decode cX11_run 0 = .ok (.aload_n 0, 1) := by decide +kernel
theorem dX11_run_1 : decode cX11_run 1 = .ok (.iconst (-1), 1) := by decide +kernel
theorem dX11_run_2 : decode cX11_run 2 = .ok (.putfield 26, 3) := by decide +kernel
theorem dX11_run_5 : decode cX11_run 5 = .ok (.aload_n 0, 1) := by decide +kernel
theorem dX11_run_6 : decode cX11_run 6 = .ok (.iconst 0, 1) := by decide +kernel
theorem dX11_run_7 : decode cX11_run 7 = .ok (.iload_n 2, 1) := by decide +kernel
theorem dX11_run_8 : decode cX11_run 8 = .ok (.sipush 200, 3) := by decide +kernel
theorem dX11_run_11 : decode cX11_run 11 = .ok (.invokestatic 47, 3) := by decide +kernel
theorem dX11_run_14 : decode cX11_run 14 = .ok (.invokestatic 53, 3) := by decide +kernel
theorem dX11_run_17 : decode cX11_run 17 = .ok (.putfield 56, 3) := by decide +kernel
theorem dX11_run_20 : decode cX11_run 20 = .ok (.aload_n 0, 1) := by decide +kernel
theorem dX11_run_21 : decode cX11_run 21 = .ok (.iload_n 1, 1) := by decide +kernel
theorem dX11_run_22 : decode cX11_run 22 = .ok (.ifCond .lt 14, 3) := by decide +kernel
theorem dX11_run_25 : decode cX11_run 25 = .ok (.iload_n 1, 1) := by decide +kernel
theorem dX11_run_26 : decode cX11_run 26 = .ok (.sipush 256, 3) := by decide +kernel
theorem dX11_run_29 : decode cX11_run 29 = .ok (.if_icmp .ge 7, 3) := by decide +kernel
theorem dX11_run_32 : decode cX11_run 32 = .ok (.iload_n 1, 1) := by decide +kernel
theorem dX11_run_33 : decode cX11_run 33 = .ok (.goto 6, 3) := by decide +kernel
theorem dX11_run_36 : decode cX11_run 36 = .ok (.sipush 256, 3) := by decide +kernel
theorem dX11_run_39 : decode cX11_run 39 = .ok (.putfield 59, 3) := by decide +kernel
theorem dX11_run_42 : decode cX11_run 42 = .ok (.aload_n 0, 1) := by decide +kernel
theorem dX11_run_43 : decode cX11_run 43 = .ok (.getfield 56, 3) := by decide +kernel
theorem dX11_run_46 : decode cX11_run 46 = .ok (.ifCond .le 30, 3) := by decide +kernel
theorem dX11_run_49 : decode cX11_run 49 = .ok (.aload_n 0, 1) := by decide +kernel
theorem dX11_run_50 : decode cX11_run 50 = .ok (.getfield 59, 3) := by decide +kernel
theorem dX11_run_53 : decode cX11_run 53 = .ok (.sipush 256, 3) := by decide +kernel
theorem dX11_run_56 : decode cX11_run 56 = .ok (.if_icmp .ge 20, 3) := by decide +kernel
theorem dX11_run_59 : decode cX11_run 59 = .ok (.aload_n 0, 1) := by decide +kernel
theorem dX11_run_60 : decode cX11_run 60 = .ok (.dup, 1) := by decide +kernel
theorem dX11_run_61 : decode cX11_run 61 = .ok (.getfield 56, 3) := by decide +kernel
theorem dX11_run_64 : decode cX11_run 64 = .ok (.iconst 1, 1) := by decide +kernel
theorem dX11_run_65 : decode cX11_run 65 = .ok (.isub, 1) := by decide +kernel
theorem dX11_run_66 : decode cX11_run 66 = .ok (.putfield 56, 3) := by decide +kernel
theorem dX11_run_69 : decode cX11_run 69 = .ok (.aload_n 0, 1) := by decide +kernel
theorem dX11_run_70 : decode cX11_run 70 = .ok (.invokevirtual 62, 3) := by decide +kernel
theorem dX11_run_73 : decode cX11_run 73 = .ok (.goto (-31), 3) := by decide +kernel
theorem dX11_run_76 : decode cX11_run 76 = .ok (.aload_n 0, 1) := by decide +kernel
theorem dX11_run_77 : decode cX11_run 77 = .ok (.invokevirtual 34, 3) := by decide +kernel
theorem dX11_run_80 : decode cX11_run 80 = .ok (.aload_n 0, 1) := by decide +kernel
theorem dX11_run_81 : decode cX11_run 81 = .ok (.getfield 59, 3) := by decide +kernel
theorem dX11_run_84 : decode cX11_run 84 = .ok (.sipush 256, 3) := by decide +kernel
theorem dX11_run_87 : decode cX11_run 87 = .ok (.if_icmp .lt 5, 3) := by decide +kernel
theorem dX11_run_90 : decode cX11_run 90 = .ok (.iconst 0, 1) := by decide +kernel
theorem dX11_run_91 : decode cX11_run 91 = .ok (.ireturn, 1) := by decide +kernel
theorem dX11_run_92 : decode cX11_run 92 = .ok (.aload_n 0, 1) := by decide +kernel
theorem dX11_run_93 : decode cX11_run 93 = .ok (.invokevirtual 65, 3) := by decide +kernel
theorem dX11_run_96 : decode cX11_run 96 = .ok (.iconst 1, 1) := by decide +kernel
theorem dX11_run_97 : decode cX11_run 97 = .ok (.ireturn, 1) := by decide +kernel
theorem dX11_acc_0 : decode cX11_acc 0 = .ok (.aload_n 0, 1) := by decide +kernel
theorem dX11_acc_1 : decode cX11_acc 1 = .ok (.getfield 68, 3) := by decide +kernel
theorem dX11_acc_4 : decode cX11_acc 4 = .ok (.lreturn, 1) := by decide +kernel
theorem dX11_count_0 : decode cX11_count 0 = .ok (.iload_n 1, 1) := by decide +kernel
theorem dX11_count_1 : decode cX11_count 1 = .ok (.tableswitch 69 0 5 #[39, 44, 49, 54, 59, 64], 39) := by decide +kernel
theorem dX11_count_40 : decode cX11_count 40 = .ok (.aload_n 0, 1) := by decide +kernel
theorem dX11_count_41 : decode cX11_count 41 = .ok (.getfield 37, 3) := by decide +kernel
theorem dX11_count_44 : decode cX11_count 44 = .ok (.ireturn, 1) := by decide +kernel
theorem dX11_count_45 : decode cX11_count 45 = .ok (.aload_n 0, 1) := by decide +kernel
theorem dX11_count_46 : decode cX11_count 46 = .ok (.getfield 72, 3) := by decide +kernel
theorem dX11_count_49 : decode cX11_count 49 = .ok (.ireturn, 1) := by decide +kernel
theorem dX11_count_50 : decode cX11_count 50 = .ok (.aload_n 0, 1) := by decide +kernel
theorem dX11_count_51 : decode cX11_count 51 = .ok (.getfield 75, 3) := by decide +kernel
theorem dX11_count_54 : decode cX11_count 54 = .ok (.ireturn, 1) := by decide +kernel
theorem dX11_count_55 : decode cX11_count 55 = .ok (.aload_n 0, 1) := by decide +kernel
theorem dX11_count_56 : decode cX11_count 56 = .ok (.getfield 78, 3) := by decide +kernel
theorem dX11_count_59 : decode cX11_count 59 = .ok (.ireturn, 1) := by decide +kernel
theorem dX11_count_60 : decode cX11_count 60 = .ok (.aload_n 0, 1) := by decide +kernel
theorem dX11_count_61 : decode cX11_count 61 = .ok (.getfield 56, 3) := by decide +kernel
theorem dX11_count_64 : decode cX11_count 64 = .ok (.ireturn, 1) := by decide +kernel
theorem dX11_count_65 : decode cX11_count 65 = .ok (.aload_n 0, 1) := by decide +kernel
theorem dX11_count_66 : decode cX11_count 66 = .ok (.getfield 81, 3) := by decide +kernel
theorem dX11_count_69 : decode cX11_count 69 = .ok (.ireturn, 1) := by decide +kernel
theorem dX11_count_70 : decode cX11_count 70 = .ok (.iconst (-1), 1) := by decide +kernel
theorem dX11_count_71 : decode cX11_count 71 = .ok (.ireturn, 1) := by decide +kernel
theorem dX11_letFaultOut_0 : decode cX11_letFaultOut 0 = .ok (.aload_n 0, 1) := by decide +kernel
theorem dX11_letFaultOut_1 : decode cX11_letFaultOut 1 = .ok (.getfield 26, 3) := by decide +kernel
theorem dX11_letFaultOut_4 : decode cX11_letFaultOut 4 = .ok (.iconst (-1), 1) := by decide +kernel
theorem dX11_letFaultOut_5 : decode cX11_letFaultOut 5 = .ok (.if_icmp .eq 20, 3) := by decide +kernel
theorem dX11_letFaultOut_8 : decode cX11_letFaultOut 8 = .ok (.aload_n 0, 1) := by decide +kernel
theorem dX11_letFaultOut_9 : decode cX11_letFaultOut 9 = .ok (.dup, 1) := by decide +kernel
theorem dX11_letFaultOut_10 : decode cX11_letFaultOut 10 = .ok (.getfield 78, 3) := by decide +kernel
theorem dX11_letFaultOut_13 : decode cX11_letFaultOut 13 = .ok (.iconst 1, 1) := by decide +kernel
theorem dX11_letFaultOut_14 : decode cX11_letFaultOut 14 = .ok (.iadd, 1) := by decide +kernel
theorem dX11_letFaultOut_15 : decode cX11_letFaultOut 15 = .ok (.putfield 78, 3) := by decide +kernel
theorem dX11_letFaultOut_18 : decode cX11_letFaultOut 18 = .ok (.aload_n 0, 1) := by decide +kernel
theorem dX11_letFaultOut_19 : decode cX11_letFaultOut 19 = .ok (.getfield 26, 3) := by decide +kernel
theorem dX11_letFaultOut_22 : decode cX11_letFaultOut 22 = .ok (.invokestatic 84, 3) := by decide +kernel
theorem dX11_letFaultOut_25 : decode cX11_letFaultOut 25 = .ok (.return_, 1) := by decide +kernel
theorem dX11_throwFault_0 : decode cX11_throwFault 0 = .ok (.iload_n 0, 1) := by decide +kernel
theorem dX11_throwFault_1 : decode cX11_throwFault 1 = .ok (.tableswitch 87 0 5 #[39, 47, 55, 63, 71, 79], 39) := by decide +kernel
theorem dX11_throwFault_40 : decode cX11_throwFault 40 = .ok (.new 88, 3) := by decide +kernel
theorem dX11_throwFault_43 : decode cX11_throwFault 43 = .ok (.dup, 1) := by decide +kernel
theorem dX11_throwFault_44 : decode cX11_throwFault 44 = .ok (.invokespecial 90, 3) := by decide +kernel
theorem dX11_throwFault_47 : decode cX11_throwFault 47 = .ok (.athrow, 1) := by decide +kernel
theorem dX11_throwFault_48 : decode cX11_throwFault 48 = .ok (.new 91, 3) := by decide +kernel
theorem dX11_throwFault_51 : decode cX11_throwFault 51 = .ok (.dup, 1) := by decide +kernel
theorem dX11_throwFault_52 : decode cX11_throwFault 52 = .ok (.invokespecial 93, 3) := by decide +kernel
theorem dX11_throwFault_55 : decode cX11_throwFault 55 = .ok (.athrow, 1) := by decide +kernel
theorem dX11_throwFault_56 : decode cX11_throwFault 56 = .ok (.new 40, 3) := by decide +kernel
theorem dX11_throwFault_59 : decode cX11_throwFault 59 = .ok (.dup, 1) := by decide +kernel
theorem dX11_throwFault_60 : decode cX11_throwFault 60 = .ok (.invokespecial 94, 3) := by decide +kernel
theorem dX11_throwFault_63 : decode cX11_throwFault 63 = .ok (.athrow, 1) := by decide +kernel
theorem dX11_throwFault_64 : decode cX11_throwFault 64 = .ok (.new 95, 3) := by decide +kernel
theorem dX11_throwFault_67 : decode cX11_throwFault 67 = .ok (.dup, 1) := by decide +kernel
theorem dX11_throwFault_68 : decode cX11_throwFault 68 = .ok (.invokespecial 97, 3) := by decide +kernel
theorem dX11_throwFault_71 : decode cX11_throwFault 71 = .ok (.athrow, 1) := by decide +kernel
theorem dX11_throwFault_72 : decode cX11_throwFault 72 = .ok (.new 98, 3) := by decide +kernel
theorem dX11_throwFault_75 : decode cX11_throwFault 75 = .ok (.dup, 1) := by decide +kernel
theorem dX11_throwFault_76 : decode cX11_throwFault 76 = .ok (.invokespecial 100, 3) := by decide +kernel
theorem dX11_throwFault_79 : decode cX11_throwFault 79 = .ok (.athrow, 1) := by decide +kernel
theorem dX11_throwFault_80 : decode cX11_throwFault 80 = .ok (.new 101, 3) := by decide +kernel
theorem dX11_throwFault_83 : decode cX11_throwFault 83 = .ok (.dup, 1) := by decide +kernel
theorem dX11_throwFault_84 : decode cX11_throwFault 84 = .ok (.invokespecial 103, 3) := by decide +kernel
theorem dX11_throwFault_87 : decode cX11_throwFault 87 = .ok (.athrow, 1) := by decide +kernel
theorem dX11_throwFault_88 : decode cX11_throwFault 88 = .ok (.new 104, 3) := by decide +kernel
theorem dX11_throwFault_91 : decode cX11_throwFault 91 = .ok (.dup, 1) := by decide +kernel
theorem dX11_throwFault_92 : decode cX11_throwFault 92 = .ok (.invokespecial 106, 3) := by decide +kernel
theorem dX11_throwFault_95 : decode cX11_throwFault 95 = .ok (.athrow, 1) := by decide +kernel
theorem dX11_step_0 : decode cX11_step 0 = .ok (.aload_n 0, 1) := by decide +kernel
theorem dX11_step_1 : decode cX11_step 1 = .ok (.getfield 59, 3) := by decide +kernel
theorem dX11_step_4 : decode cX11_step 4 = .ok (.iconst 4, 1) := by decide +kernel
theorem dX11_step_5 : decode cX11_step 5 = .ok (.imul, 1) := by decide +kernel
theorem dX11_step_6 : decode cX11_step 6 = .ok (.istore_n 1, 1) := by decide +kernel
theorem dX11_step_7 : decode cX11_step 7 = .ok (.aload_n 0, 1) := by decide +kernel
theorem dX11_step_8 : decode cX11_step 8 = .ok (.getfield 15, 3) := by decide +kernel
theorem dX11_step_11 : decode cX11_step 11 = .ok (.iload_n 1, 1) := by decide +kernel
theorem dX11_step_12 : decode cX11_step 12 = .ok (.iaload, 1) := by decide +kernel
theorem dX11_step_13 : decode cX11_step 13 = .ok (.istore_n 2, 1) := by decide +kernel
theorem dX11_step_14 : decode cX11_step 14 = .ok (.aload_n 0, 1) := by decide +kernel
theorem dX11_step_15 : decode cX11_step 15 = .ok (.dup, 1) := by decide +kernel
theorem dX11_step_16 : decode cX11_step 16 = .ok (.getfield 59, 3) := by decide +kernel
theorem dX11_step_19 : decode cX11_step 19 = .ok (.iconst 1, 1) := by decide +kernel
theorem dX11_step_20 : decode cX11_step 20 = .ok (.iadd, 1) := by decide +kernel
theorem dX11_step_21 : decode cX11_step 21 = .ok (.putfield 59, 3) := by decide +kernel
theorem dX11_step_24 : decode cX11_step 24 = .ok (.iload_n 2, 1) := by decide +kernel
theorem dX11_step_25 : decode cX11_step 25 = .ok (.bipush 40, 2) := by decide +kernel
theorem dX11_step_27 : decode cX11_step 27 = .ok (.if_icmp .lt 33, 3) := by decide +kernel
theorem dX11_step_30 : decode cX11_step 30 = .ok (.iload_n 2, 1) := by decide +kernel
theorem dX11_step_31 : decode cX11_step 31 = .ok (.bipush 45, 2) := by decide +kernel
theorem dX11_step_33 : decode cX11_step 33 = .ok (.if_icmp .gt 27, 3) := by decide +kernel
theorem dX11_step_36 : decode cX11_step 36 = .ok (.aload_n 0, 1) := by decide +kernel
theorem dX11_step_37 : decode cX11_step 37 = .ok (.iload_n 2, 1) := by decide +kernel
theorem dX11_step_38 : decode cX11_step 38 = .ok (.aload_n 0, 1) := by decide +kernel
theorem dX11_step_39 : decode cX11_step 39 = .ok (.getfield 15, 3) := by decide +kernel
theorem dX11_step_42 : decode cX11_step 42 = .ok (.iload_n 1, 1) := by decide +kernel
theorem dX11_step_43 : decode cX11_step 43 = .ok (.iconst 1, 1) := by decide +kernel
theorem dX11_step_44 : decode cX11_step 44 = .ok (.iadd, 1) := by decide +kernel
theorem dX11_step_45 : decode cX11_step 45 = .ok (.iaload, 1) := by decide +kernel
theorem dX11_step_46 : decode cX11_step 46 = .ok (.aload_n 0, 1) := by decide +kernel
theorem dX11_step_47 : decode cX11_step 47 = .ok (.getfield 15, 3) := by decide +kernel
theorem dX11_step_50 : decode cX11_step 50 = .ok (.iload_n 1, 1) := by decide +kernel
theorem dX11_step_51 : decode cX11_step 51 = .ok (.iconst 2, 1) := by decide +kernel
theorem dX11_step_52 : decode cX11_step 52 = .ok (.iadd, 1) := by decide +kernel
theorem dX11_step_53 : decode cX11_step 53 = .ok (.iaload, 1) := by decide +kernel
theorem dX11_step_54 : decode cX11_step 54 = .ok (.invokevirtual 107, 3) := by decide +kernel
theorem dX11_step_57 : decode cX11_step 57 = .ok (.goto 63, 3) := by decide +kernel
theorem dX11_step_60 : decode cX11_step 60 = .ok (.aload_n 0, 1) := by decide +kernel
theorem dX11_step_61 : decode cX11_step 61 = .ok (.iload_n 2, 1) := by decide +kernel
theorem dX11_step_62 : decode cX11_step 62 = .ok (.aload_n 0, 1) := by decide +kernel
theorem dX11_step_63 : decode cX11_step 63 = .ok (.getfield 15, 3) := by decide +kernel
theorem dX11_step_66 : decode cX11_step 66 = .ok (.iload_n 1, 1) := by decide +kernel
theorem dX11_step_67 : decode cX11_step 67 = .ok (.iconst 1, 1) := by decide +kernel
theorem dX11_step_68 : decode cX11_step 68 = .ok (.iadd, 1) := by decide +kernel
theorem dX11_step_69 : decode cX11_step 69 = .ok (.iaload, 1) := by decide +kernel
theorem dX11_step_70 : decode cX11_step 70 = .ok (.aload_n 0, 1) := by decide +kernel
theorem dX11_step_71 : decode cX11_step 71 = .ok (.getfield 15, 3) := by decide +kernel
theorem dX11_step_74 : decode cX11_step 74 = .ok (.iload_n 1, 1) := by decide +kernel
theorem dX11_step_75 : decode cX11_step 75 = .ok (.iconst 2, 1) := by decide +kernel
theorem dX11_step_76 : decode cX11_step 76 = .ok (.iadd, 1) := by decide +kernel
theorem dX11_step_77 : decode cX11_step 77 = .ok (.iaload, 1) := by decide +kernel
theorem dX11_step_78 : decode cX11_step 78 = .ok (.aload_n 0, 1) := by decide +kernel
theorem dX11_step_79 : decode cX11_step 79 = .ok (.getfield 15, 3) := by decide +kernel
theorem dX11_step_82 : decode cX11_step 82 = .ok (.iload_n 1, 1) := by decide +kernel
theorem dX11_step_83 : decode cX11_step 83 = .ok (.iconst 3, 1) := by decide +kernel
theorem dX11_step_84 : decode cX11_step 84 = .ok (.iadd, 1) := by decide +kernel
theorem dX11_step_85 : decode cX11_step 85 = .ok (.iaload, 1) := by decide +kernel
theorem dX11_step_86 : decode cX11_step 86 = .ok (.invokevirtual 30, 3) := by decide +kernel
theorem dX11_step_89 : decode cX11_step 89 = .ok (.lstore_n 3, 1) := by decide +kernel
theorem dX11_step_90 : decode cX11_step 90 = .ok (.aload_n 0, 1) := by decide +kernel
theorem dX11_step_91 : decode cX11_step 91 = .ok (.getfield 26, 3) := by decide +kernel
theorem dX11_step_94 : decode cX11_step 94 = .ok (.iconst (-1), 1) := by decide +kernel
theorem dX11_step_95 : decode cX11_step 95 = .ok (.if_icmp .ne 21, 3) := by decide +kernel
theorem dX11_step_98 : decode cX11_step 98 = .ok (.aload_n 0, 1) := by decide +kernel
theorem dX11_step_99 : decode cX11_step 99 = .ok (.lload_n 3, 1) := by decide +kernel
theorem dX11_step_100 : decode cX11_step 100 = .ok (.putfield 68, 3) := by decide +kernel
theorem dX11_step_103 : decode cX11_step 103 = .ok (.aload_n 0, 1) := by decide +kernel
theorem dX11_step_104 : decode cX11_step 104 = .ok (.dup, 1) := by decide +kernel
theorem dX11_step_105 : decode cX11_step 105 = .ok (.getfield 37, 3) := by decide +kernel
theorem dX11_step_108 : decode cX11_step 108 = .ok (.iconst 1, 1) := by decide +kernel
theorem dX11_step_109 : decode cX11_step 109 = .ok (.iadd, 1) := by decide +kernel
theorem dX11_step_110 : decode cX11_step 110 = .ok (.putfield 37, 3) := by decide +kernel
theorem dX11_step_113 : decode cX11_step 113 = .ok (.goto 7, 3) := by decide +kernel
theorem dX11_step_116 : decode cX11_step 116 = .ok (.aload_n 0, 1) := by decide +kernel
theorem dX11_step_117 : decode cX11_step 117 = .ok (.invokevirtual 111, 3) := by decide +kernel
theorem dX11_step_120 : decode cX11_step 120 = .ok (.aload_n 0, 1) := by decide +kernel
theorem dX11_step_121 : decode cX11_step 121 = .ok (.invokevirtual 114, 3) := by decide +kernel
theorem dX11_step_124 : decode cX11_step 124 = .ok (.return_, 1) := by decide +kernel
theorem dX11_control_0 : decode cX11_control 0 = .ok (.iload_n 1, 1) := by decide +kernel
theorem dX11_control_1 : decode cX11_control 1 = .ok (.tableswitch 126 40 45 #[68, 82, 91, 105, 39, 46], 39) := by decide +kernel
theorem dX11_control_40 : decode cX11_control 40 = .ok (.aload_n 0, 1) := by decide +kernel
theorem dX11_control_41 : decode cX11_control 41 = .ok (.iload_n 2, 1) := by decide +kernel
theorem dX11_control_42 : decode cX11_control 42 = .ok (.iload_n 3, 1) := by decide +kernel
theorem dX11_control_43 : decode cX11_control 43 = .ok (.invokevirtual 117, 3) := by decide +kernel
theorem dX11_control_46 : decode cX11_control 46 = .ok (.return_, 1) := by decide +kernel
theorem dX11_control_47 : decode cX11_control 47 = .ok (.aload_n 0, 1) := by decide +kernel
theorem dX11_control_48 : decode cX11_control 48 = .ok (.getfield 22, 3) := by decide +kernel
theorem dX11_control_51 : decode cX11_control 51 = .ok (.aload_n 0, 1) := by decide +kernel
theorem dX11_control_52 : decode cX11_control 52 = .ok (.getfield 59, 3) := by decide +kernel
theorem dX11_control_55 : decode cX11_control 55 = .ok (.aload_n 0, 1) := by decide +kernel
theorem dX11_control_56 : decode cX11_control 56 = .ok (.iload_n 2, 1) := by decide +kernel
theorem dX11_control_57 : decode cX11_control 57 = .ok (.invokevirtual 121, 3) := by decide +kernel
theorem dX11_control_60 : decode cX11_control 60 = .ok (.iconst 1, 1) := by decide +kernel
theorem dX11_control_61 : decode cX11_control 61 = .ok (.iload_n 3, 1) := by decide +kernel
theorem dX11_control_62 : decode cX11_control 62 = .ok (.bipush 7, 2) := by decide +kernel
theorem dX11_control_64 : decode cX11_control 64 = .ok (.iand, 1) := by decide +kernel
theorem dX11_control_65 : decode cX11_control 65 = .ok (.invokevirtual 125, 3) := by decide +kernel
theorem dX11_control_68 : decode cX11_control 68 = .ok (.return_, 1) := by decide +kernel
theorem dX11_control_69 : decode cX11_control 69 = .ok (.aload_n 0, 1) := by decide +kernel
theorem dX11_control_70 : decode cX11_control 70 = .ok (.invokevirtual 65, 3) := by decide +kernel
theorem dX11_control_73 : decode cX11_control 73 = .ok (.aload_n 0, 1) := by decide +kernel
theorem dX11_control_74 : decode cX11_control 74 = .ok (.sipush 256, 3) := by decide +kernel
theorem dX11_control_77 : decode cX11_control 77 = .ok (.putfield 59, 3) := by decide +kernel
theorem dX11_control_80 : decode cX11_control 80 = .ok (.goto 47, 3) := by decide +kernel
theorem dX11_control_83 : decode cX11_control 83 = .ok (.aload_n 0, 1) := by decide +kernel
theorem dX11_control_84 : decode cX11_control 84 = .ok (.iload_n 2, 1) := by decide +kernel
theorem dX11_control_85 : decode cX11_control 85 = .ok (.i2l, 1) := by decide +kernel
theorem dX11_control_86 : decode cX11_control 86 = .ok (.putfield 68, 3) := by decide +kernel
theorem dX11_control_89 : decode cX11_control 89 = .ok (.goto 38, 3) := by decide +kernel
theorem dX11_control_92 : decode cX11_control 92 = .ok (.aload_n 0, 1) := by decide +kernel
theorem dX11_control_93 : decode cX11_control 93 = .ok (.dup, 1) := by decide +kernel
theorem dX11_control_94 : decode cX11_control 94 = .ok (.getfield 68, 3) := by decide +kernel
theorem dX11_control_97 : decode cX11_control 97 = .ok (.iload_n 2, 1) := by decide +kernel
theorem dX11_control_98 : decode cX11_control 98 = .ok (.i2l, 1) := by decide +kernel
theorem dX11_control_99 : decode cX11_control 99 = .ok (.ladd, 1) := by decide +kernel
theorem dX11_control_100 : decode cX11_control 100 = .ok (.putfield 68, 3) := by decide +kernel
theorem dX11_control_103 : decode cX11_control 103 = .ok (.goto 24, 3) := by decide +kernel
theorem dX11_control_106 : decode cX11_control 106 = .ok (.aload_n 0, 1) := by decide +kernel
theorem dX11_control_107 : decode cX11_control 107 = .ok (.getfield 68, 3) := by decide +kernel
theorem dX11_control_110 : decode cX11_control 110 = .ok (.lconst 0, 1) := by decide +kernel
theorem dX11_control_111 : decode cX11_control 111 = .ok (.lcmp, 1) := by decide +kernel
theorem dX11_control_112 : decode cX11_control 112 = .ok (.ifCond .ge 15, 3) := by decide +kernel
theorem dX11_control_115 : decode cX11_control 115 = .ok (.aload_n 0, 1) := by decide +kernel
theorem dX11_control_116 : decode cX11_control 116 = .ok (.aload_n 0, 1) := by decide +kernel
theorem dX11_control_117 : decode cX11_control 117 = .ok (.iload_n 2, 1) := by decide +kernel
theorem dX11_control_118 : decode cX11_control 118 = .ok (.invokevirtual 121, 3) := by decide +kernel
theorem dX11_control_121 : decode cX11_control 121 = .ok (.putfield 59, 3) := by decide +kernel
theorem dX11_control_124 : decode cX11_control 124 = .ok (.goto 3, 3) := by decide +kernel
theorem dX11_control_127 : decode cX11_control 127 = .ok (.aload_n 0, 1) := by decide +kernel
theorem dX11_control_128 : decode cX11_control 128 = .ok (.dup, 1) := by decide +kernel
theorem dX11_control_129 : decode cX11_control 129 = .ok (.getfield 37, 3) := by decide +kernel
theorem dX11_control_132 : decode cX11_control 132 = .ok (.iconst 1, 1) := by decide +kernel
theorem dX11_control_133 : decode cX11_control 133 = .ok (.iadd, 1) := by decide +kernel
theorem dX11_control_134 : decode cX11_control 134 = .ok (.putfield 37, 3) := by decide +kernel
theorem dX11_control_137 : decode cX11_control 137 = .ok (.return_, 1) := by decide +kernel
theorem dX11_repeat_0 : decode cX11_repeat 0 = .ok (.aload_n 0, 1) := by decide +kernel
theorem dX11_repeat_1 : decode cX11_repeat 1 = .ok (.iload_n 1, 1) := by decide +kernel
theorem dX11_repeat_2 : decode cX11_repeat 2 = .ok (.invokevirtual 121, 3) := by decide +kernel
theorem dX11_repeat_5 : decode cX11_repeat 5 = .ok (.istore_n 3, 1) := by decide +kernel
theorem dX11_repeat_6 : decode cX11_repeat 6 = .ok (.iload_n 3, 1) := by decide +kernel
theorem dX11_repeat_7 : decode cX11_repeat 7 = .ok (.aload_n 0, 1) := by decide +kernel
theorem dX11_repeat_8 : decode cX11_repeat 8 = .ok (.getfield 59, 3) := by decide +kernel
theorem dX11_repeat_11 : decode cX11_repeat 11 = .ok (.if_icmp .le 25, 3) := by decide +kernel
theorem dX11_repeat_14 : decode cX11_repeat 14 = .ok (.iload_n 2, 1) := by decide +kernel
theorem dX11_repeat_15 : decode cX11_repeat 15 = .ok (.ifCond .le 21, 3) := by decide +kernel
theorem dX11_repeat_18 : decode cX11_repeat 18 = .ok (.aload_n 0, 1) := by decide +kernel
theorem dX11_repeat_19 : decode cX11_repeat 19 = .ok (.getfield 22, 3) := by decide +kernel
theorem dX11_repeat_22 : decode cX11_repeat 22 = .ok (.aload_n 0, 1) := by decide +kernel
theorem dX11_repeat_23 : decode cX11_repeat 23 = .ok (.getfield 59, 3) := by decide +kernel
theorem dX11_repeat_26 : decode cX11_repeat 26 = .ok (.iload_n 3, 1) := by decide +kernel
theorem dX11_repeat_27 : decode cX11_repeat 27 = .ok (.iload_n 2, 1) := by decide +kernel
theorem dX11_repeat_28 : decode cX11_repeat 28 = .ok (.bipush 8, 2) := by decide +kernel
theorem dX11_repeat_30 : decode cX11_repeat 30 = .ok (.invokevirtual 125, 3) := by decide +kernel
theorem dX11_repeat_33 : decode cX11_repeat 33 = .ok (.goto 18, 3) := by decide +kernel
theorem dX11_repeat_36 : decode cX11_repeat 36 = .ok (.aload_n 0, 1) := by decide +kernel
theorem dX11_repeat_37 : decode cX11_repeat 37 = .ok (.iload_n 3, 1) := by decide +kernel
theorem dX11_repeat_38 : decode cX11_repeat 38 = .ok (.putfield 59, 3) := by decide +kernel
theorem dX11_repeat_41 : decode cX11_repeat 41 = .ok (.aload_n 0, 1) := by decide +kernel
theorem dX11_repeat_42 : decode cX11_repeat 42 = .ok (.dup, 1) := by decide +kernel
theorem dX11_repeat_43 : decode cX11_repeat 43 = .ok (.getfield 37, 3) := by decide +kernel
theorem dX11_repeat_46 : decode cX11_repeat 46 = .ok (.iconst 1, 1) := by decide +kernel
theorem dX11_repeat_47 : decode cX11_repeat 47 = .ok (.iadd, 1) := by decide +kernel
theorem dX11_repeat_48 : decode cX11_repeat 48 = .ok (.putfield 37, 3) := by decide +kernel
theorem dX11_repeat_51 : decode cX11_repeat 51 = .ok (.return_, 1) := by decide +kernel
theorem dX11_endOfNext_0 : decode cX11_endOfNext 0 = .ok (.aload_n 0, 1) := by decide +kernel
theorem dX11_endOfNext_1 : decode cX11_endOfNext 1 = .ok (.getfield 22, 3) := by decide +kernel
theorem dX11_endOfNext_4 : decode cX11_endOfNext 4 = .ok (.invokevirtual 129, 3) := by decide +kernel
theorem dX11_endOfNext_7 : decode cX11_endOfNext 7 = .ok (.istore_n 2, 1) := by decide +kernel
theorem dX11_endOfNext_8 : decode cX11_endOfNext 8 = .ok (.iload_n 1, 1) := by decide +kernel
theorem dX11_endOfNext_9 : decode cX11_endOfNext 9 = .ok (.iconst 0, 1) := by decide +kernel
theorem dX11_endOfNext_10 : decode cX11_endOfNext 10 = .ok (.invokestatic 53, 3) := by decide +kernel
theorem dX11_endOfNext_13 : decode cX11_endOfNext 13 = .ok (.istore_n 3, 1) := by decide +kernel
theorem dX11_endOfNext_14 : decode cX11_endOfNext 14 = .ok (.iload_n 3, 1) := by decide +kernel
theorem dX11_endOfNext_15 : decode cX11_endOfNext 15 = .ok (.iload_n 2, 1) := by decide +kernel
theorem dX11_endOfNext_16 : decode cX11_endOfNext 16 = .ok (.aload_n 0, 1) := by decide +kernel
theorem dX11_endOfNext_17 : decode cX11_endOfNext 17 = .ok (.getfield 59, 3) := by decide +kernel
theorem dX11_endOfNext_20 : decode cX11_endOfNext 20 = .ok (.isub, 1) := by decide +kernel
theorem dX11_endOfNext_21 : decode cX11_endOfNext 21 = .ok (.if_icmp .ge 12, 3) := by decide +kernel
theorem dX11_endOfNext_24 : decode cX11_endOfNext 24 = .ok (.aload_n 0, 1) := by decide +kernel
theorem dX11_endOfNext_25 : decode cX11_endOfNext 25 = .ok (.getfield 59, 3) := by decide +kernel
theorem dX11_endOfNext_28 : decode cX11_endOfNext 28 = .ok (.iload_n 3, 1) := by decide +kernel
theorem dX11_endOfNext_29 : decode cX11_endOfNext 29 = .ok (.iadd, 1) := by decide +kernel
theorem dX11_endOfNext_30 : decode cX11_endOfNext 30 = .ok (.goto 4, 3) := by decide +kernel
theorem dX11_endOfNext_33 : decode cX11_endOfNext 33 = .ok (.iload_n 2, 1) := by decide +kernel
theorem dX11_endOfNext_34 : decode cX11_endOfNext 34 = .ok (.ireturn, 1) := by decide +kernel
theorem dX11_leaveFinishedBlocks_0 : decode cX11_leaveFinishedBlocks 0 = .ok (.aload_n 0, 1) := by decide +kernel
theorem dX11_leaveFinishedBlocks_1 : decode cX11_leaveFinishedBlocks 1 = .ok (.getfield 22, 3) := by decide +kernel
theorem dX11_leaveFinishedBlocks_4 : decode cX11_leaveFinishedBlocks 4 = .ok (.getfield 133, 3) := by decide +kernel
theorem dX11_leaveFinishedBlocks_7 : decode cX11_leaveFinishedBlocks 7 = .ok (.istore_n 1, 1) := by decide +kernel
theorem dX11_leaveFinishedBlocks_8 : decode cX11_leaveFinishedBlocks 8 = .ok (.iload_n 1, 1) := by decide +kernel
theorem dX11_leaveFinishedBlocks_9 : decode cX11_leaveFinishedBlocks 9 = .ok (.ifCond .le 49, 3) := by decide +kernel
theorem dX11_leaveFinishedBlocks_12 : decode cX11_leaveFinishedBlocks 12 = .ok (.aload_n 0, 1) := by decide +kernel
theorem dX11_leaveFinishedBlocks_13 : decode cX11_leaveFinishedBlocks 13 = .ok (.getfield 59, 3) := by decide +kernel
theorem dX11_leaveFinishedBlocks_16 : decode cX11_leaveFinishedBlocks 16 = .ok (.aload_n 0, 1) := by decide +kernel
theorem dX11_leaveFinishedBlocks_17 : decode cX11_leaveFinishedBlocks 17 = .ok (.getfield 22, 3) := by decide +kernel
theorem dX11_leaveFinishedBlocks_20 : decode cX11_leaveFinishedBlocks 20 = .ok (.invokevirtual 129, 3) := by decide +kernel
theorem dX11_leaveFinishedBlocks_23 : decode cX11_leaveFinishedBlocks 23 = .ok (.if_icmp .lt 35, 3) := by decide +kernel
theorem dX11_leaveFinishedBlocks_26 : decode cX11_leaveFinishedBlocks 26 = .ok (.aload_n 0, 1) := by decide +kernel
theorem dX11_leaveFinishedBlocks_27 : decode cX11_leaveFinishedBlocks 27 = .ok (.getfield 22, 3) := by decide +kernel
theorem dX11_leaveFinishedBlocks_30 : decode cX11_leaveFinishedBlocks 30 = .ok (.invokevirtual 136, 3) := by decide +kernel
theorem dX11_leaveFinishedBlocks_33 : decode cX11_leaveFinishedBlocks 33 = .ok (.ifCond .eq 15, 3) := by decide +kernel
theorem dX11_leaveFinishedBlocks_36 : decode cX11_leaveFinishedBlocks 36 = .ok (.aload_n 0, 1) := by decide +kernel
theorem dX11_leaveFinishedBlocks_37 : decode cX11_leaveFinishedBlocks 37 = .ok (.aload_n 0, 1) := by decide +kernel
theorem dX11_leaveFinishedBlocks_38 : decode cX11_leaveFinishedBlocks 38 = .ok (.getfield 22, 3) := by decide +kernel
theorem dX11_leaveFinishedBlocks_41 : decode cX11_leaveFinishedBlocks 41 = .ok (.invokevirtual 140, 3) := by decide +kernel
theorem dX11_leaveFinishedBlocks_44 : decode cX11_leaveFinishedBlocks 44 = .ok (.putfield 59, 3) := by decide +kernel
theorem dX11_leaveFinishedBlocks_47 : decode cX11_leaveFinishedBlocks 47 = .ok (.return_, 1) := by decide +kernel
theorem dX11_leaveFinishedBlocks_48 : decode cX11_leaveFinishedBlocks 48 = .ok (.aload_n 0, 1) := by decide +kernel
theorem dX11_leaveFinishedBlocks_49 : decode cX11_leaveFinishedBlocks 49 = .ok (.invokevirtual 143, 3) := by decide +kernel
theorem dX11_leaveFinishedBlocks_52 : decode cX11_leaveFinishedBlocks 52 = .ok (.iinc 1 (-1), 3) := by decide +kernel
theorem dX11_leaveFinishedBlocks_55 : decode cX11_leaveFinishedBlocks 55 = .ok (.goto (-47), 3) := by decide +kernel
theorem dX11_leaveFinishedBlocks_58 : decode cX11_leaveFinishedBlocks 58 = .ok (.return_, 1) := by decide +kernel
theorem dX11_closeAllBlocks_0 : decode cX11_closeAllBlocks 0 = .ok (.aload_n 0, 1) := by decide +kernel
theorem dX11_closeAllBlocks_1 : decode cX11_closeAllBlocks 1 = .ok (.getfield 22, 3) := by decide +kernel
theorem dX11_closeAllBlocks_4 : decode cX11_closeAllBlocks 4 = .ok (.getfield 133, 3) := by decide +kernel
theorem dX11_closeAllBlocks_7 : decode cX11_closeAllBlocks 7 = .ok (.istore_n 1, 1) := by decide +kernel
theorem dX11_closeAllBlocks_8 : decode cX11_closeAllBlocks 8 = .ok (.iload_n 1, 1) := by decide +kernel
theorem dX11_closeAllBlocks_9 : decode cX11_closeAllBlocks 9 = .ok (.ifCond .le 13, 3) := by decide +kernel
theorem dX11_closeAllBlocks_12 : decode cX11_closeAllBlocks 12 = .ok (.aload_n 0, 1) := by decide +kernel
theorem dX11_closeAllBlocks_13 : decode cX11_closeAllBlocks 13 = .ok (.invokevirtual 143, 3) := by decide +kernel
theorem dX11_closeAllBlocks_16 : decode cX11_closeAllBlocks 16 = .ok (.iinc 1 (-1), 3) := by decide +kernel
theorem dX11_closeAllBlocks_19 : decode cX11_closeAllBlocks 19 = .ok (.goto (-11), 3) := by decide +kernel
theorem dX11_closeAllBlocks_22 : decode cX11_closeAllBlocks 22 = .ok (.return_, 1) := by decide +kernel
theorem dX11_closeBlock_0 : decode cX11_closeBlock 0 = .ok (.aload_n 0, 1) := by decide +kernel
theorem dX11_closeBlock_1 : decode cX11_closeBlock 1 = .ok (.getfield 22, 3) := by decide +kernel
theorem dX11_closeBlock_4 : decode cX11_closeBlock 4 = .ok (.invokevirtual 146, 3) := by decide +kernel
theorem dX11_closeBlock_7 : decode cX11_closeBlock 7 = .ok (.bipush 6, 2) := by decide +kernel
theorem dX11_closeBlock_9 : decode cX11_closeBlock 9 = .ok (.if_icmp .ne 13, 3) := by decide +kernel
theorem dX11_closeBlock_12 : decode cX11_closeBlock 12 = .ok (.aload_n 0, 1) := by decide +kernel
theorem dX11_closeBlock_13 : decode cX11_closeBlock 13 = .ok (.dup, 1) := by decide +kernel
theorem dX11_closeBlock_14 : decode cX11_closeBlock 14 = .ok (.getfield 75, 3) := by decide +kernel
theorem dX11_closeBlock_17 : decode cX11_closeBlock 17 = .ok (.iconst 1, 1) := by decide +kernel
theorem dX11_closeBlock_18 : decode cX11_closeBlock 18 = .ok (.iadd, 1) := by decide +kernel
theorem dX11_closeBlock_19 : decode cX11_closeBlock 19 = .ok (.putfield 75, 3) := by decide +kernel
theorem dX11_closeBlock_22 : decode cX11_closeBlock 22 = .ok (.aload_n 0, 1) := by decide +kernel
theorem dX11_closeBlock_23 : decode cX11_closeBlock 23 = .ok (.dup, 1) := by decide +kernel
theorem dX11_closeBlock_24 : decode cX11_closeBlock 24 = .ok (.getfield 37, 3) := by decide +kernel
theorem dX11_closeBlock_27 : decode cX11_closeBlock 27 = .ok (.iconst 1, 1) := by decide +kernel
theorem dX11_closeBlock_28 : decode cX11_closeBlock 28 = .ok (.iadd, 1) := by decide +kernel
theorem dX11_closeBlock_29 : decode cX11_closeBlock 29 = .ok (.putfield 37, 3) := by decide +kernel
theorem dX11_closeBlock_32 : decode cX11_closeBlock 32 = .ok (.aload_n 0, 1) := by decide +kernel
theorem dX11_closeBlock_33 : decode cX11_closeBlock 33 = .ok (.getfield 22, 3) := by decide +kernel
theorem dX11_closeBlock_36 : decode cX11_closeBlock 36 = .ok (.invokevirtual 149, 3) := by decide +kernel
theorem dX11_closeBlock_39 : decode cX11_closeBlock 39 = .ok (.return_, 1) := by decide +kernel
theorem dX11_unwind_0 : decode cX11_unwind 0 = .ok (.aload_n 0, 1) := by decide +kernel
theorem dX11_unwind_1 : decode cX11_unwind 1 = .ok (.getfield 22, 3) := by decide +kernel
theorem dX11_unwind_4 : decode cX11_unwind 4 = .ok (.getfield 133, 3) := by decide +kernel
theorem dX11_unwind_7 : decode cX11_unwind 7 = .ok (.istore_n 1, 1) := by decide +kernel
theorem dX11_unwind_8 : decode cX11_unwind 8 = .ok (.iload_n 1, 1) := by decide +kernel
theorem dX11_unwind_9 : decode cX11_unwind 9 = .ok (.ifCond .le 92, 3) := by decide +kernel
theorem dX11_unwind_12 : decode cX11_unwind 12 = .ok (.aload_n 0, 1) := by decide +kernel
theorem dX11_unwind_13 : decode cX11_unwind 13 = .ok (.getfield 22, 3) := by decide +kernel
theorem dX11_unwind_16 : decode cX11_unwind 16 = .ok (.invokevirtual 146, 3) := by decide +kernel
theorem dX11_unwind_19 : decode cX11_unwind 19 = .ok (.istore_n 2, 1) := by decide +kernel
theorem dX11_unwind_20 : decode cX11_unwind 20 = .ok (.aload_n 0, 1) := by decide +kernel
theorem dX11_unwind_21 : decode cX11_unwind 21 = .ok (.iload_n 2, 1) := by decide +kernel
theorem dX11_unwind_22 : decode cX11_unwind 22 = .ok (.invokevirtual 152, 3) := by decide +kernel
theorem dX11_unwind_25 : decode cX11_unwind 25 = .ok (.ifCond .eq 47, 3) := by decide +kernel
theorem dX11_unwind_28 : decode cX11_unwind 28 = .ok (.aload_n 0, 1) := by decide +kernel
theorem dX11_unwind_29 : decode cX11_unwind 29 = .ok (.aload_n 0, 1) := by decide +kernel
theorem dX11_unwind_30 : decode cX11_unwind 30 = .ok (.getfield 22, 3) := by decide +kernel
theorem dX11_unwind_33 : decode cX11_unwind 33 = .ok (.invokevirtual 129, 3) := by decide +kernel
theorem dX11_unwind_36 : decode cX11_unwind 36 = .ok (.putfield 59, 3) := by decide +kernel
theorem dX11_unwind_39 : decode cX11_unwind 39 = .ok (.aload_n 0, 1) := by decide +kernel
theorem dX11_unwind_40 : decode cX11_unwind 40 = .ok (.ldc2_w 156, 3) := by decide +kernel
theorem dX11_unwind_43 : decode cX11_unwind 43 = .ok (.aload_n 0, 1) := by decide +kernel
theorem dX11_unwind_44 : decode cX11_unwind 44 = .ok (.getfield 26, 3) := by decide +kernel
theorem dX11_unwind_47 : decode cX11_unwind 47 = .ok (.i2l, 1) := by decide +kernel
theorem dX11_unwind_48 : decode cX11_unwind 48 = .ok (.lsub, 1) := by decide +kernel
theorem dX11_unwind_49 : decode cX11_unwind 49 = .ok (.putfield 68, 3) := by decide +kernel
theorem dX11_unwind_52 : decode cX11_unwind 52 = .ok (.aload_n 0, 1) := by decide +kernel
theorem dX11_unwind_53 : decode cX11_unwind 53 = .ok (.iconst (-1), 1) := by decide +kernel
theorem dX11_unwind_54 : decode cX11_unwind 54 = .ok (.putfield 26, 3) := by decide +kernel
theorem dX11_unwind_57 : decode cX11_unwind 57 = .ok (.aload_n 0, 1) := by decide +kernel
theorem dX11_unwind_58 : decode cX11_unwind 58 = .ok (.dup, 1) := by decide +kernel
theorem dX11_unwind_59 : decode cX11_unwind 59 = .ok (.getfield 72, 3) := by decide +kernel
theorem dX11_unwind_62 : decode cX11_unwind 62 = .ok (.iconst 1, 1) := by decide +kernel
theorem dX11_unwind_63 : decode cX11_unwind 63 = .ok (.iadd, 1) := by decide +kernel
theorem dX11_unwind_64 : decode cX11_unwind 64 = .ok (.putfield 72, 3) := by decide +kernel
theorem dX11_unwind_67 : decode cX11_unwind 67 = .ok (.aload_n 0, 1) := by decide +kernel
theorem dX11_unwind_68 : decode cX11_unwind 68 = .ok (.invokevirtual 143, 3) := by decide +kernel
theorem dX11_unwind_71 : decode cX11_unwind 71 = .ok (.return_, 1) := by decide +kernel
theorem dX11_unwind_72 : decode cX11_unwind 72 = .ok (.iload_n 2, 1) := by decide +kernel
theorem dX11_unwind_73 : decode cX11_unwind 73 = .ok (.bipush 6, 2) := by decide +kernel
theorem dX11_unwind_75 : decode cX11_unwind 75 = .ok (.if_icmp .ne 13, 3) := by decide +kernel
theorem dX11_unwind_78 : decode cX11_unwind 78 = .ok (.aload_n 0, 1) := by decide +kernel
theorem dX11_unwind_79 : decode cX11_unwind 79 = .ok (.dup, 1) := by decide +kernel
theorem dX11_unwind_80 : decode cX11_unwind 80 = .ok (.getfield 75, 3) := by decide +kernel
theorem dX11_unwind_83 : decode cX11_unwind 83 = .ok (.iconst 1, 1) := by decide +kernel
theorem dX11_unwind_84 : decode cX11_unwind 84 = .ok (.iadd, 1) := by decide +kernel
theorem dX11_unwind_85 : decode cX11_unwind 85 = .ok (.putfield 75, 3) := by decide +kernel
theorem dX11_unwind_88 : decode cX11_unwind 88 = .ok (.aload_n 0, 1) := by decide +kernel
theorem dX11_unwind_89 : decode cX11_unwind 89 = .ok (.getfield 22, 3) := by decide +kernel
theorem dX11_unwind_92 : decode cX11_unwind 92 = .ok (.invokevirtual 149, 3) := by decide +kernel
theorem dX11_unwind_95 : decode cX11_unwind 95 = .ok (.iinc 1 (-1), 3) := by decide +kernel
theorem dX11_unwind_98 : decode cX11_unwind 98 = .ok (.goto (-90), 3) := by decide +kernel
theorem dX11_unwind_101 : decode cX11_unwind 101 = .ok (.aload_n 0, 1) := by decide +kernel
theorem dX11_unwind_102 : decode cX11_unwind 102 = .ok (.sipush 256, 3) := by decide +kernel
theorem dX11_unwind_105 : decode cX11_unwind 105 = .ok (.putfield 59, 3) := by decide +kernel
theorem dX11_unwind_108 : decode cX11_unwind 108 = .ok (.return_, 1) := by decide +kernel
theorem dX11_isCaught_0 : decode cX11_isCaught 0 = .ok (.iload_n 1, 1) := by decide +kernel
theorem dX11_isCaught_1 : decode cX11_isCaught 1 = .ok (.tableswitch 100 0 7 #[47, 47, 47, 61, 83, 100, 100, 85], 47) := by decide +kernel
theorem dX11_isCaught_48 : decode cX11_isCaught 48 = .ok (.aload_n 0, 1) := by decide +kernel
theorem dX11_isCaught_49 : decode cX11_isCaught 49 = .ok (.getfield 26, 3) := by decide +kernel
theorem dX11_isCaught_52 : decode cX11_isCaught 52 = .ok (.iload_n 1, 1) := by decide +kernel
theorem dX11_isCaught_53 : decode cX11_isCaught 53 = .ok (.if_icmp .ne 7, 3) := by decide +kernel
theorem dX11_isCaught_56 : decode cX11_isCaught 56 = .ok (.iconst 1, 1) := by decide +kernel
theorem dX11_isCaught_57 : decode cX11_isCaught 57 = .ok (.goto 4, 3) := by decide +kernel
theorem dX11_isCaught_60 : decode cX11_isCaught 60 = .ok (.iconst 0, 1) := by decide +kernel
theorem dX11_isCaught_61 : decode cX11_isCaught 61 = .ok (.ireturn, 1) := by decide +kernel
theorem dX11_isCaught_62 : decode cX11_isCaught 62 = .ok (.aload_n 0, 1) := by decide +kernel
theorem dX11_isCaught_63 : decode cX11_isCaught 63 = .ok (.getfield 26, 3) := by decide +kernel
theorem dX11_isCaught_66 : decode cX11_isCaught 66 = .ok (.iconst 3, 1) := by decide +kernel
theorem dX11_isCaught_67 : decode cX11_isCaught 67 = .ok (.if_icmp .eq 11, 3) := by decide +kernel
theorem dX11_isCaught_70 : decode cX11_isCaught 70 = .ok (.aload_n 0, 1) := by decide +kernel
theorem dX11_isCaught_71 : decode cX11_isCaught 71 = .ok (.getfield 26, 3) := by decide +kernel
theorem dX11_isCaught_74 : decode cX11_isCaught 74 = .ok (.iconst 5, 1) := by decide +kernel
theorem dX11_isCaught_75 : decode cX11_isCaught 75 = .ok (.if_icmp .ne 7, 3) := by decide +kernel
theorem dX11_isCaught_78 : decode cX11_isCaught 78 = .ok (.iconst 1, 1) := by decide +kernel
theorem dX11_isCaught_79 : decode cX11_isCaught 79 = .ok (.goto 4, 3) := by decide +kernel
theorem dX11_isCaught_82 : decode cX11_isCaught 82 = .ok (.iconst 0, 1) := by decide +kernel
theorem dX11_isCaught_83 : decode cX11_isCaught 83 = .ok (.ireturn, 1) := by decide +kernel
theorem dX11_isCaught_84 : decode cX11_isCaught 84 = .ok (.iconst 1, 1) := by decide +kernel
theorem dX11_isCaught_85 : decode cX11_isCaught 85 = .ok (.ireturn, 1) := by decide +kernel
theorem dX11_isCaught_86 : decode cX11_isCaught 86 = .ok (.aload_n 0, 1) := by decide +kernel
theorem dX11_isCaught_87 : decode cX11_isCaught 87 = .ok (.getfield 26, 3) := by decide +kernel
theorem dX11_isCaught_90 : decode cX11_isCaught 90 = .ok (.bipush 6, 2) := by decide +kernel
theorem dX11_isCaught_92 : decode cX11_isCaught 92 = .ok (.if_icmp .ne 7, 3) := by decide +kernel
theorem dX11_isCaught_95 : decode cX11_isCaught 95 = .ok (.iconst 1, 1) := by decide +kernel
theorem dX11_isCaught_96 : decode cX11_isCaught 96 = .ok (.goto 4, 3) := by decide +kernel
theorem dX11_isCaught_99 : decode cX11_isCaught 99 = .ok (.iconst 0, 1) := by decide +kernel
theorem dX11_isCaught_100 : decode cX11_isCaught 100 = .ok (.ireturn, 1) := by decide +kernel
theorem dX11_isCaught_101 : decode cX11_isCaught 101 = .ok (.iconst 0, 1) := by decide +kernel
theorem dX11_isCaught_102 : decode cX11_isCaught 102 = .ok (.ireturn, 1) := by decide +kernel
theorem dX11_answerOf_0 : decode cX11_answerOf 0 = .ok (.iload_n 1, 1) := by decide +kernel
theorem dX11_answerOf_1 : decode cX11_answerOf 1 = .ok (.tableswitch 468 0 31 #[143, 152, 161, 170, 177, 186, 200, 215, 226, 238, 247, 260, 273, 284, 291, 298, 304, 310, 317, 324, 331, 338, 344, 365, 386, 406, 426, 432, 439, 445, 452, 459], 143) := by decide +kernel
theorem dX11_answerOf_144 : decode cX11_answerOf 144 = .ok (.aload_n 0, 1) := by decide +kernel
theorem dX11_answerOf_145 : decode cX11_answerOf 145 = .ok (.iload_n 2, 1) := by decide +kernel
theorem dX11_answerOf_146 : decode cX11_answerOf 146 = .ok (.iload_n 3, 1) := by decide +kernel
theorem dX11_answerOf_147 : decode cX11_answerOf 147 = .ok (.iload 4, 2) := by decide +kernel
theorem dX11_answerOf_149 : decode cX11_answerOf 149 = .ok (.invokevirtual 158, 3) := by decide +kernel
theorem dX11_answerOf_152 : decode cX11_answerOf 152 = .ok (.lreturn, 1) := by decide +kernel
theorem dX11_answerOf_153 : decode cX11_answerOf 153 = .ok (.aload_n 0, 1) := by decide +kernel
theorem dX11_answerOf_154 : decode cX11_answerOf 154 = .ok (.iload_n 2, 1) := by decide +kernel
theorem dX11_answerOf_155 : decode cX11_answerOf 155 = .ok (.iload_n 3, 1) := by decide +kernel
theorem dX11_answerOf_156 : decode cX11_answerOf 156 = .ok (.iload 4, 2) := by decide +kernel
theorem dX11_answerOf_158 : decode cX11_answerOf 158 = .ok (.invokevirtual 162, 3) := by decide +kernel
theorem dX11_answerOf_161 : decode cX11_answerOf 161 = .ok (.lreturn, 1) := by decide +kernel
theorem dX11_answerOf_162 : decode cX11_answerOf 162 = .ok (.aload_n 0, 1) := by decide +kernel
theorem dX11_answerOf_163 : decode cX11_answerOf 163 = .ok (.iload_n 2, 1) := by decide +kernel
theorem dX11_answerOf_164 : decode cX11_answerOf 164 = .ok (.iload_n 3, 1) := by decide +kernel
theorem dX11_answerOf_165 : decode cX11_answerOf 165 = .ok (.iload 4, 2) := by decide +kernel
theorem dX11_answerOf_167 : decode cX11_answerOf 167 = .ok (.invokevirtual 165, 3) := by decide +kernel
theorem dX11_answerOf_170 : decode cX11_answerOf 170 = .ok (.lreturn, 1) := by decide +kernel
theorem dX11_answerOf_171 : decode cX11_answerOf 171 = .ok (.aload_n 0, 1) := by decide +kernel
theorem dX11_answerOf_172 : decode cX11_answerOf 172 = .ok (.iload_n 2, 1) := by decide +kernel
theorem dX11_answerOf_173 : decode cX11_answerOf 173 = .ok (.iload_n 3, 1) := by decide +kernel
theorem dX11_answerOf_174 : decode cX11_answerOf 174 = .ok (.invokevirtual 168, 3) := by decide +kernel
theorem dX11_answerOf_177 : decode cX11_answerOf 177 = .ok (.lreturn, 1) := by decide +kernel
theorem dX11_answerOf_178 : decode cX11_answerOf 178 = .ok (.aload_n 0, 1) := by decide +kernel
theorem dX11_answerOf_179 : decode cX11_answerOf 179 = .ok (.iload_n 2, 1) := by decide +kernel
theorem dX11_answerOf_180 : decode cX11_answerOf 180 = .ok (.iload_n 3, 1) := by decide +kernel
theorem dX11_answerOf_181 : decode cX11_answerOf 181 = .ok (.iload 4, 2) := by decide +kernel
theorem dX11_answerOf_183 : decode cX11_answerOf 183 = .ok (.invokevirtual 172, 3) := by decide +kernel
theorem dX11_answerOf_186 : decode cX11_answerOf 186 = .ok (.lreturn, 1) := by decide +kernel
theorem dX11_answerOf_187 : decode cX11_answerOf 187 = .ok (.aload_n 0, 1) := by decide +kernel
theorem dX11_answerOf_188 : decode cX11_answerOf 188 = .ok (.iload_n 2, 1) := by decide +kernel
theorem dX11_answerOf_189 : decode cX11_answerOf 189 = .ok (.iload_n 3, 1) := by decide +kernel
theorem dX11_answerOf_190 : decode cX11_answerOf 190 = .ok (.iload 4, 2) := by decide +kernel
theorem dX11_answerOf_192 : decode cX11_answerOf 192 = .ok (.invokevirtual 175, 3) := by decide +kernel
theorem dX11_answerOf_195 : decode cX11_answerOf 195 = .ok (.iload 4, 2) := by decide +kernel
theorem dX11_answerOf_197 : decode cX11_answerOf 197 = .ok (.invokestatic 179, 3) := by decide +kernel
theorem dX11_answerOf_200 : decode cX11_answerOf 200 = .ok (.lreturn, 1) := by decide +kernel
theorem dX11_answerOf_201 : decode cX11_answerOf 201 = .ok (.aload_n 0, 1) := by decide +kernel
theorem dX11_answerOf_202 : decode cX11_answerOf 202 = .ok (.aload_n 0, 1) := by decide +kernel
theorem dX11_answerOf_203 : decode cX11_answerOf 203 = .ok (.iload_n 2, 1) := by decide +kernel
theorem dX11_answerOf_204 : decode cX11_answerOf 204 = .ok (.iload_n 3, 1) := by decide +kernel
theorem dX11_answerOf_205 : decode cX11_answerOf 205 = .ok (.iload 4, 2) := by decide +kernel
theorem dX11_answerOf_207 : decode cX11_answerOf 207 = .ok (.invokevirtual 175, 3) := by decide +kernel
theorem dX11_answerOf_210 : decode cX11_answerOf 210 = .ok (.iload 4, 2) := by decide +kernel
theorem dX11_answerOf_212 : decode cX11_answerOf 212 = .ok (.invokevirtual 183, 3) := by decide +kernel
theorem dX11_answerOf_215 : decode cX11_answerOf 215 = .ok (.lreturn, 1) := by decide +kernel
theorem dX11_answerOf_216 : decode cX11_answerOf 216 = .ok (.aload_n 0, 1) := by decide +kernel
theorem dX11_answerOf_217 : decode cX11_answerOf 217 = .ok (.bipush 8, 2) := by decide +kernel
theorem dX11_answerOf_219 : decode cX11_answerOf 219 = .ok (.iload_n 2, 1) := by decide +kernel
theorem dX11_answerOf_220 : decode cX11_answerOf 220 = .ok (.iload_n 3, 1) := by decide +kernel
theorem dX11_answerOf_221 : decode cX11_answerOf 221 = .ok (.iload 4, 2) := by decide +kernel
theorem dX11_answerOf_223 : decode cX11_answerOf 223 = .ok (.invokevirtual 186, 3) := by decide +kernel
theorem dX11_answerOf_226 : decode cX11_answerOf 226 = .ok (.lreturn, 1) := by decide +kernel
theorem dX11_answerOf_227 : decode cX11_answerOf 227 = .ok (.aload_n 0, 1) := by decide +kernel
theorem dX11_answerOf_228 : decode cX11_answerOf 228 = .ok (.bipush 8, 2) := by decide +kernel
theorem dX11_answerOf_230 : decode cX11_answerOf 230 = .ok (.iconst 0, 1) := by decide +kernel
theorem dX11_answerOf_231 : decode cX11_answerOf 231 = .ok (.iload_n 2, 1) := by decide +kernel
theorem dX11_answerOf_232 : decode cX11_answerOf 232 = .ok (.iload_n 3, 1) := by decide +kernel
theorem dX11_answerOf_233 : decode cX11_answerOf 233 = .ok (.iload 4, 2) := by decide +kernel
theorem dX11_answerOf_235 : decode cX11_answerOf 235 = .ok (.invokevirtual 189, 3) := by decide +kernel
theorem dX11_answerOf_238 : decode cX11_answerOf 238 = .ok (.lreturn, 1) := by decide +kernel
theorem dX11_answerOf_239 : decode cX11_answerOf 239 = .ok (.aload_n 0, 1) := by decide +kernel
theorem dX11_answerOf_240 : decode cX11_answerOf 240 = .ok (.iload_n 2, 1) := by decide +kernel
theorem dX11_answerOf_241 : decode cX11_answerOf 241 = .ok (.iload_n 3, 1) := by decide +kernel
theorem dX11_answerOf_242 : decode cX11_answerOf 242 = .ok (.iload 4, 2) := by decide +kernel
theorem dX11_answerOf_244 : decode cX11_answerOf 244 = .ok (.invokevirtual 193, 3) := by decide +kernel
theorem dX11_answerOf_247 : decode cX11_answerOf 247 = .ok (.lreturn, 1) := by decide +kernel
theorem dX11_answerOf_248 : decode cX11_answerOf 248 = .ok (.aload_n 0, 1) := by decide +kernel
theorem dX11_answerOf_249 : decode cX11_answerOf 249 = .ok (.bipush 9, 2) := by decide +kernel
theorem dX11_answerOf_251 : decode cX11_answerOf 251 = .ok (.bipush 12, 2) := by decide +kernel
theorem dX11_answerOf_253 : decode cX11_answerOf 253 = .ok (.iload_n 2, 1) := by decide +kernel
theorem dX11_answerOf_254 : decode cX11_answerOf 254 = .ok (.iload_n 3, 1) := by decide +kernel
theorem dX11_answerOf_255 : decode cX11_answerOf 255 = .ok (.iload 4, 2) := by decide +kernel
theorem dX11_answerOf_257 : decode cX11_answerOf 257 = .ok (.invokevirtual 189, 3) := by decide +kernel
theorem dX11_answerOf_260 : decode cX11_answerOf 260 = .ok (.lreturn, 1) := by decide +kernel
theorem dX11_answerOf_261 : decode cX11_answerOf 261 = .ok (.aload_n 0, 1) := by decide +kernel
theorem dX11_answerOf_262 : decode cX11_answerOf 262 = .ok (.bipush 11, 2) := by decide +kernel
theorem dX11_answerOf_264 : decode cX11_answerOf 264 = .ok (.bipush 14, 2) := by decide +kernel
theorem dX11_answerOf_266 : decode cX11_answerOf 266 = .ok (.iload_n 2, 1) := by decide +kernel
theorem dX11_answerOf_267 : decode cX11_answerOf 267 = .ok (.iload_n 3, 1) := by decide +kernel
theorem dX11_answerOf_268 : decode cX11_answerOf 268 = .ok (.iload 4, 2) := by decide +kernel
theorem dX11_answerOf_270 : decode cX11_answerOf 270 = .ok (.invokevirtual 189, 3) := by decide +kernel
theorem dX11_answerOf_273 : decode cX11_answerOf 273 = .ok (.lreturn, 1) := by decide +kernel
theorem dX11_answerOf_274 : decode cX11_answerOf 274 = .ok (.aload_n 0, 1) := by decide +kernel
theorem dX11_answerOf_275 : decode cX11_answerOf 275 = .ok (.bipush 9, 2) := by decide +kernel
theorem dX11_answerOf_277 : decode cX11_answerOf 277 = .ok (.iload_n 2, 1) := by decide +kernel
theorem dX11_answerOf_278 : decode cX11_answerOf 278 = .ok (.iload_n 3, 1) := by decide +kernel
theorem dX11_answerOf_279 : decode cX11_answerOf 279 = .ok (.iload 4, 2) := by decide +kernel
theorem dX11_answerOf_281 : decode cX11_answerOf 281 = .ok (.invokevirtual 186, 3) := by decide +kernel
theorem dX11_answerOf_284 : decode cX11_answerOf 284 = .ok (.lreturn, 1) := by decide +kernel
theorem dX11_answerOf_285 : decode cX11_answerOf 285 = .ok (.aload_n 0, 1) := by decide +kernel
theorem dX11_answerOf_286 : decode cX11_answerOf 286 = .ok (.iload_n 2, 1) := by decide +kernel
theorem dX11_answerOf_287 : decode cX11_answerOf 287 = .ok (.iload_n 3, 1) := by decide +kernel
theorem dX11_answerOf_288 : decode cX11_answerOf 288 = .ok (.invokevirtual 196, 3) := by decide +kernel
theorem dX11_answerOf_291 : decode cX11_answerOf 291 = .ok (.lreturn, 1) := by decide +kernel
theorem dX11_answerOf_292 : decode cX11_answerOf 292 = .ok (.aload_n 0, 1) := by decide +kernel
theorem dX11_answerOf_293 : decode cX11_answerOf 293 = .ok (.iload_n 2, 1) := by decide +kernel
theorem dX11_answerOf_294 : decode cX11_answerOf 294 = .ok (.iload_n 3, 1) := by decide +kernel
theorem dX11_answerOf_295 : decode cX11_answerOf 295 = .ok (.invokevirtual 199, 3) := by decide +kernel
theorem dX11_answerOf_298 : decode cX11_answerOf 298 = .ok (.lreturn, 1) := by decide +kernel
theorem dX11_answerOf_299 : decode cX11_answerOf 299 = .ok (.aload_n 0, 1) := by decide +kernel
theorem dX11_answerOf_300 : decode cX11_answerOf 300 = .ok (.iload_n 2, 1) := by decide +kernel
theorem dX11_answerOf_301 : decode cX11_answerOf 301 = .ok (.invokevirtual 202, 3) := by decide +kernel
theorem dX11_answerOf_304 : decode cX11_answerOf 304 = .ok (.lreturn, 1) := by decide +kernel
theorem dX11_answerOf_305 : decode cX11_answerOf 305 = .ok (.aload_n 0, 1) := by decide +kernel
theorem dX11_answerOf_306 : decode cX11_answerOf 306 = .ok (.iload_n 2, 1) := by decide +kernel
theorem dX11_answerOf_307 : decode cX11_answerOf 307 = .ok (.invokevirtual 206, 3) := by decide +kernel
theorem dX11_answerOf_310 : decode cX11_answerOf 310 = .ok (.lreturn, 1) := by decide +kernel
theorem dX11_answerOf_311 : decode cX11_answerOf 311 = .ok (.aload_n 0, 1) := by decide +kernel
theorem dX11_answerOf_312 : decode cX11_answerOf 312 = .ok (.iload_n 2, 1) := by decide +kernel
theorem dX11_answerOf_313 : decode cX11_answerOf 313 = .ok (.iload_n 3, 1) := by decide +kernel
theorem dX11_answerOf_314 : decode cX11_answerOf 314 = .ok (.invokevirtual 209, 3) := by decide +kernel
theorem dX11_answerOf_317 : decode cX11_answerOf 317 = .ok (.lreturn, 1) := by decide +kernel
theorem dX11_answerOf_318 : decode cX11_answerOf 318 = .ok (.aload_n 0, 1) := by decide +kernel
theorem dX11_answerOf_319 : decode cX11_answerOf 319 = .ok (.iload_n 2, 1) := by decide +kernel
theorem dX11_answerOf_320 : decode cX11_answerOf 320 = .ok (.iload_n 3, 1) := by decide +kernel
theorem dX11_answerOf_321 : decode cX11_answerOf 321 = .ok (.invokevirtual 212, 3) := by decide +kernel
theorem dX11_answerOf_324 : decode cX11_answerOf 324 = .ok (.lreturn, 1) := by decide +kernel
theorem dX11_answerOf_325 : decode cX11_answerOf 325 = .ok (.aload_n 0, 1) := by decide +kernel
