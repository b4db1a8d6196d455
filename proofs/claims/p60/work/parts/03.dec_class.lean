theorem dX1_init_0 : decode cX1_init 0 = .ok (.aload_n 0, 1) := by decide +kernel
theorem dX1_init_1 : decode cX1_init 1 = .ok (.invokespecial 3, 3) := by decide +kernel
theorem dX1_init_4 : decode cX1_init 4 = .ok (.aload_n 0, 1) := by decide +kernel
theorem dX1_init_5 : decode cX1_init 5 = .ok (.iconst 4, 1) := by decide +kernel
theorem dX1_init_6 : decode cX1_init 6 = .ok (.newarray .int, 2) := by decide +kernel
theorem dX1_init_8 : decode cX1_init 8 = .ok (.putfield 9, 3) := by decide +kernel
theorem dX1_init_11 : decode cX1_init 11 = .ok (.aload_n 0, 1) := by decide +kernel
theorem dX1_init_12 : decode cX1_init 12 = .ok (.iconst 4, 1) := by decide +kernel
theorem dX1_init_13 : decode cX1_init 13 = .ok (.newarray .boolean, 2) := by decide +kernel
theorem dX1_init_15 : decode cX1_init 15 = .ok (.putfield 15, 3) := by decide +kernel
theorem dX1_init_18 : decode cX1_init 18 = .ok (.aload_n 0, 1) := by decide +kernel
theorem dX1_init_19 : decode cX1_init 19 = .ok (.iconst 0, 1) := by decide +kernel
theorem dX1_init_20 : decode cX1_init 20 = .ok (.putfield 19, 3) := by decide +kernel
theorem dX1_init_23 : decode cX1_init 23 = .ok (.return_, 1) := by decide +kernel
theorem dX1_copyFrom_0 : decode cX1_copyFrom 0 = .ok (.iconst 0, 1) := by decide +kernel
theorem dX1_copyFrom_1 : decode cX1_copyFrom 1 = .ok (.istore_n 2, 1) := by decide +kernel
theorem dX1_copyFrom_2 : decode cX1_copyFrom 2 = .ok (.iload_n 2, 1) := by decide +kernel
theorem dX1_copyFrom_3 : decode cX1_copyFrom 3 = .ok (.iconst 4, 1) := by decide +kernel
theorem dX1_copyFrom_4 : decode cX1_copyFrom 4 = .ok (.if_icmp .ge 33, 3) := by decide +kernel
theorem dX1_copyFrom_7 : decode cX1_copyFrom 7 = .ok (.aload_n 0, 1) := by decide +kernel
theorem dX1_copyFrom_8 : decode cX1_copyFrom 8 = .ok (.getfield 9, 3) := by decide +kernel
theorem dX1_copyFrom_11 : decode cX1_copyFrom 11 = .ok (.iload_n 2, 1) := by decide +kernel
theorem dX1_copyFrom_12 : decode cX1_copyFrom 12 = .ok (.aload_n 1, 1) := by decide +kernel
theorem dX1_copyFrom_13 : decode cX1_copyFrom 13 = .ok (.getfield 9, 3) := by decide +kernel
theorem dX1_copyFrom_16 : decode cX1_copyFrom 16 = .ok (.iload_n 2, 1) := by decide +kernel
theorem dX1_copyFrom_17 : decode cX1_copyFrom 17 = .ok (.iaload, 1) := by decide +kernel
theorem dX1_copyFrom_18 : decode cX1_copyFrom 18 = .ok (.iastore, 1) := by decide +kernel
theorem dX1_copyFrom_19 : decode cX1_copyFrom 19 = .ok (.aload_n 0, 1) := by decide +kernel
theorem dX1_copyFrom_20 : decode cX1_copyFrom 20 = .ok (.getfield 15, 3) := by decide +kernel
theorem dX1_copyFrom_23 : decode cX1_copyFrom 23 = .ok (.iload_n 2, 1) := by decide +kernel
theorem dX1_copyFrom_24 : decode cX1_copyFrom 24 = .ok (.aload_n 1, 1) := by decide +kernel
theorem dX1_copyFrom_25 : decode cX1_copyFrom 25 = .ok (.getfield 15, 3) := by decide +kernel
theorem dX1_copyFrom_28 : decode cX1_copyFrom 28 = .ok (.iload_n 2, 1) := by decide +kernel
theorem dX1_copyFrom_29 : decode cX1_copyFrom 29 = .ok (.baload, 1) := by decide +kernel
theorem dX1_copyFrom_30 : decode cX1_copyFrom 30 = .ok (.bastore, 1) := by decide +kernel
theorem dX1_copyFrom_31 : decode cX1_copyFrom 31 = .ok (.iinc 2 1, 3) := by decide +kernel
theorem dX1_copyFrom_34 : decode cX1_copyFrom 34 = .ok (.goto (-32), 3) := by decide +kernel
theorem dX1_copyFrom_37 : decode cX1_copyFrom 37 = .ok (.aload_n 0, 1) := by decide +kernel
theorem dX1_copyFrom_38 : decode cX1_copyFrom 38 = .ok (.aload_n 1, 1) := by decide +kernel
theorem dX1_copyFrom_39 : decode cX1_copyFrom 39 = .ok (.getfield 19, 3) := by decide +kernel
theorem dX1_copyFrom_42 : decode cX1_copyFrom 42 = .ok (.putfield 19, 3) := by decide +kernel
theorem dX1_copyFrom_45 : decode cX1_copyFrom 45 = .ok (.return_, 1) := by decide +kernel
theorem dX1_has_0 : decode cX1_has 0 = .ok (.iload_n 1, 1) := by decide +kernel
theorem dX1_has_1 : decode cX1_has 1 = .ok (.ifCond .lt 15, 3) := by decide +kernel
theorem dX1_has_4 : decode cX1_has 4 = .ok (.iload_n 1, 1) := by decide +kernel
theorem dX1_has_5 : decode cX1_has 5 = .ok (.aload_n 0, 1) := by decide +kernel
theorem dX1_has_6 : decode cX1_has 6 = .ok (.getfield 19, 3) := by decide +kernel
theorem dX1_has_9 : decode cX1_has 9 = .ok (.if_icmp .ge 7, 3) := by decide +kernel
theorem dX1_has_12 : decode cX1_has 12 = .ok (.iconst 1, 1) := by decide +kernel
theorem dX1_has_13 : decode cX1_has 13 = .ok (.goto 4, 3) := by decide +kernel
theorem dX1_has_16 : decode cX1_has 16 = .ok (.iconst 0, 1) := by decide +kernel
theorem dX1_has_17 : decode cX1_has 17 = .ok (.ireturn, 1) := by decide +kernel
theorem dX1_inUse_0 : decode cX1_inUse 0 = .ok (.iconst 0, 1) := by decide +kernel
theorem dX1_inUse_1 : decode cX1_inUse 1 = .ok (.istore_n 1, 1) := by decide +kernel
theorem dX1_inUse_2 : decode cX1_inUse 2 = .ok (.iconst 0, 1) := by decide +kernel
theorem dX1_inUse_3 : decode cX1_inUse 3 = .ok (.istore_n 2, 1) := by decide +kernel
theorem dX1_inUse_4 : decode cX1_inUse 4 = .ok (.iload_n 2, 1) := by decide +kernel
theorem dX1_inUse_5 : decode cX1_inUse 5 = .ok (.aload_n 0, 1) := by decide +kernel
theorem dX1_inUse_6 : decode cX1_inUse 6 = .ok (.getfield 19, 3) := by decide +kernel
theorem dX1_inUse_9 : decode cX1_inUse 9 = .ok (.if_icmp .ge 21, 3) := by decide +kernel
theorem dX1_inUse_12 : decode cX1_inUse 12 = .ok (.aload_n 0, 1) := by decide +kernel
theorem dX1_inUse_13 : decode cX1_inUse 13 = .ok (.getfield 15, 3) := by decide +kernel
theorem dX1_inUse_16 : decode cX1_inUse 16 = .ok (.iload_n 2, 1) := by decide +kernel
theorem dX1_inUse_17 : decode cX1_inUse 17 = .ok (.baload, 1) := by decide +kernel
theorem dX1_inUse_18 : decode cX1_inUse 18 = .ok (.ifCond .ne 6, 3) := by decide +kernel
theorem dX1_inUse_21 : decode cX1_inUse 21 = .ok (.iinc 1 1, 3) := by decide +kernel
theorem dX1_inUse_24 : decode cX1_inUse 24 = .ok (.iinc 2 1, 3) := by decide +kernel
theorem dX1_inUse_27 : decode cX1_inUse 27 = .ok (.goto (-23), 3) := by decide +kernel
theorem dX1_inUse_30 : decode cX1_inUse 30 = .ok (.iload_n 1, 1) := by decide +kernel
theorem dX1_inUse_31 : decode cX1_inUse 31 = .ok (.ireturn, 1) := by decide +kernel
theorem dX1_greatestPowerInUse_0 : decode cX1_greatestPowerInUse 0 = .ok (.iconst 0, 1) := by decide +kernel
theorem dX1_greatestPowerInUse_1 : decode cX1_greatestPowerInUse 1 = .ok (.istore_n 1, 1) := by decide +kernel
theorem dX1_greatestPowerInUse_2 : decode cX1_greatestPowerInUse 2 = .ok (.iconst 0, 1) := by decide +kernel
theorem dX1_greatestPowerInUse_3 : decode cX1_greatestPowerInUse 3 = .ok (.istore_n 2, 1) := by decide +kernel
theorem dX1_greatestPowerInUse_4 : decode cX1_greatestPowerInUse 4 = .ok (.iload_n 2, 1) := by decide +kernel
theorem dX1_greatestPowerInUse_5 : decode cX1_greatestPowerInUse 5 = .ok (.aload_n 0, 1) := by decide +kernel
theorem dX1_greatestPowerInUse_6 : decode cX1_greatestPowerInUse 6 = .ok (.getfield 19, 3) := by decide +kernel
theorem dX1_greatestPowerInUse_9 : decode cX1_greatestPowerInUse 9 = .ok (.if_icmp .ge 35, 3) := by decide +kernel
theorem dX1_greatestPowerInUse_12 : decode cX1_greatestPowerInUse 12 = .ok (.aload_n 0, 1) := by decide +kernel
theorem dX1_greatestPowerInUse_13 : decode cX1_greatestPowerInUse 13 = .ok (.getfield 15, 3) := by decide +kernel
theorem dX1_greatestPowerInUse_16 : decode cX1_greatestPowerInUse 16 = .ok (.iload_n 2, 1) := by decide +kernel
theorem dX1_greatestPowerInUse_17 : decode cX1_greatestPowerInUse 17 = .ok (.baload, 1) := by decide +kernel
theorem dX1_greatestPowerInUse_18 : decode cX1_greatestPowerInUse 18 = .ok (.ifCond .ne 20, 3) := by decide +kernel
theorem dX1_greatestPowerInUse_21 : decode cX1_greatestPowerInUse 21 = .ok (.aload_n 0, 1) := by decide +kernel
theorem dX1_greatestPowerInUse_22 : decode cX1_greatestPowerInUse 22 = .ok (.getfield 9, 3) := by decide +kernel
theorem dX1_greatestPowerInUse_25 : decode cX1_greatestPowerInUse 25 = .ok (.iload_n 2, 1) := by decide +kernel
theorem dX1_greatestPowerInUse_26 : decode cX1_greatestPowerInUse 26 = .ok (.iaload, 1) := by decide +kernel
theorem dX1_greatestPowerInUse_27 : decode cX1_greatestPowerInUse 27 = .ok (.iload_n 1, 1) := by decide +kernel
theorem dX1_greatestPowerInUse_28 : decode cX1_greatestPowerInUse 28 = .ok (.if_icmp .le 10, 3) := by decide +kernel
theorem dX1_greatestPowerInUse_31 : decode cX1_greatestPowerInUse 31 = .ok (.aload_n 0, 1) := by decide +kernel
theorem dX1_greatestPowerInUse_32 : decode cX1_greatestPowerInUse 32 = .ok (.getfield 9, 3) := by decide +kernel
theorem dX1_greatestPowerInUse_35 : decode cX1_greatestPowerInUse 35 = .ok (.iload_n 2, 1) := by decide +kernel
theorem dX1_greatestPowerInUse_36 : decode cX1_greatestPowerInUse 36 = .ok (.iaload, 1) := by decide +kernel
theorem dX1_greatestPowerInUse_37 : decode cX1_greatestPowerInUse 37 = .ok (.istore_n 1, 1) := by decide +kernel
theorem dX1_greatestPowerInUse_38 : decode cX1_greatestPowerInUse 38 = .ok (.iinc 2 1, 3) := by decide +kernel
theorem dX1_greatestPowerInUse_41 : decode cX1_greatestPowerInUse 41 = .ok (.goto (-37), 3) := by decide +kernel
theorem dX1_greatestPowerInUse_44 : decode cX1_greatestPowerInUse 44 = .ok (.iload_n 1, 1) := by decide +kernel
theorem dX1_greatestPowerInUse_45 : decode cX1_greatestPowerInUse 45 = .ok (.ireturn, 1) := by decide +kernel
theorem dX2_init_0 : decode cX2_init 0 = .ok (.aload_n 0, 1) := by decide +kernel
theorem dX2_init_1 : decode cX2_init 1 = .ok (.invokespecial 3, 3) := by decide +kernel
theorem dX2_init_4 : decode cX2_init 4 = .ok (.aload_n 0, 1) := by decide +kernel
theorem dX2_init_5 : decode cX2_init 5 = .ok (.iconst 4, 1) := by decide +kernel
theorem dX2_init_6 : decode cX2_init 6 = .ok (.newarray .int, 2) := by decide +kernel
theorem dX2_init_8 : decode cX2_init 8 = .ok (.putfield 9, 3) := by decide +kernel
theorem dX2_init_11 : decode cX2_init 11 = .ok (.aload_n 0, 1) := by decide +kernel
theorem dX2_init_12 : decode cX2_init 12 = .ok (.iconst 0, 1) := by decide +kernel
theorem dX2_init_13 : decode cX2_init 13 = .ok (.putfield 15, 3) := by decide +kernel
theorem dX2_init_16 : decode cX2_init 16 = .ok (.aload_n 0, 1) := by decide +kernel
theorem dX2_init_17 : decode cX2_init 17 = .ok (.getstatic 19, 3) := by decide +kernel
theorem dX2_init_20 : decode cX2_init 20 = .ok (.putfield 25, 3) := by decide +kernel
theorem dX2_init_23 : decode cX2_init 23 = .ok (.return_, 1) := by decide +kernel
theorem dX2_addArgument_0 : decode cX2_addArgument 0 = .ok (.aload_n 0, 1) := by decide +kernel
theorem dX2_addArgument_1 : decode cX2_addArgument 1 = .ok (.getfield 15, 3) := by decide +kernel
theorem dX2_addArgument_4 : decode cX2_addArgument 4 = .ok (.iconst 4, 1) := by decide +kernel
theorem dX2_addArgument_5 : decode cX2_addArgument 5 = .ok (.if_icmp .ge 23, 3) := by decide +kernel
theorem dX2_addArgument_8 : decode cX2_addArgument 8 = .ok (.aload_n 0, 1) := by decide +kernel
theorem dX2_addArgument_9 : decode cX2_addArgument 9 = .ok (.getfield 9, 3) := by decide +kernel
theorem dX2_addArgument_12 : decode cX2_addArgument 12 = .ok (.aload_n 0, 1) := by decide +kernel
theorem dX2_addArgument_13 : decode cX2_addArgument 13 = .ok (.getfield 15, 3) := by decide +kernel
theorem dX2_addArgument_16 : decode cX2_addArgument 16 = .ok (.iload_n 1, 1) := by decide +kernel
theorem dX2_addArgument_17 : decode cX2_addArgument 17 = .ok (.iastore, 1) := by decide +kernel
theorem dX2_addArgument_18 : decode cX2_addArgument 18 = .ok (.aload_n 0, 1) := by decide +kernel
theorem dX2_addArgument_19 : decode cX2_addArgument 19 = .ok (.dup, 1) := by decide +kernel
theorem dX2_addArgument_20 : decode cX2_addArgument 20 = .ok (.getfield 15, 3) := by decide +kernel
theorem dX2_addArgument_23 : decode cX2_addArgument 23 = .ok (.iconst 1, 1) := by decide +kernel
theorem dX2_addArgument_24 : decode cX2_addArgument 24 = .ok (.iadd, 1) := by decide +kernel
theorem dX2_addArgument_25 : decode cX2_addArgument 25 = .ok (.putfield 15, 3) := by decide +kernel
theorem dX2_addArgument_28 : decode cX2_addArgument 28 = .ok (.return_, 1) := by decide +kernel
theorem dX3_init_0 : decode cX3_init 0 = .ok (.aload_n 0, 1) := by decide +kernel
theorem dX3_init_1 : decode cX3_init 1 = .ok (.invokespecial 3, 3) := by decide +kernel
theorem dX3_init_4 : decode cX3_init 4 = .ok (.aload_n 0, 1) := by decide +kernel
theorem dX3_init_5 : decode cX3_init 5 = .ok (.bipush 8, 2) := by decide +kernel
theorem dX3_init_7 : decode cX3_init 7 = .ok (.newarray .int, 2) := by decide +kernel
theorem dX3_init_9 : decode cX3_init 9 = .ok (.putfield 9, 3) := by decide +kernel
theorem dX3_init_12 : decode cX3_init 12 = .ok (.aload_n 0, 1) := by decide +kernel
theorem dX3_init_13 : decode cX3_init 13 = .ok (.bipush 8, 2) := by decide +kernel
theorem dX3_init_15 : decode cX3_init 15 = .ok (.newarray .int, 2) := by decide +kernel
theorem dX3_init_17 : decode cX3_init 17 = .ok (.putfield 15, 3) := by decide +kernel
theorem dX3_init_20 : decode cX3_init 20 = .ok (.aload_n 0, 1) := by decide +kernel
theorem dX3_init_21 : decode cX3_init 21 = .ok (.bipush 8, 2) := by decide +kernel
theorem dX3_init_23 : decode cX3_init 23 = .ok (.newarray .int, 2) := by decide +kernel
theorem dX3_init_25 : decode cX3_init 25 = .ok (.putfield 18, 3) := by decide +kernel
theorem dX3_init_28 : decode cX3_init 28 = .ok (.aload_n 0, 1) := by decide +kernel
theorem dX3_init_29 : decode cX3_init 29 = .ok (.bipush 8, 2) := by decide +kernel
theorem dX3_init_31 : decode cX3_init 31 = .ok (.newarray .int, 2) := by decide +kernel
theorem dX3_init_33 : decode cX3_init 33 = .ok (.putfield 21, 3) := by decide +kernel
theorem dX3_init_36 : decode cX3_init 36 = .ok (.aload_n 0, 1) := by decide +kernel
theorem dX3_init_37 : decode cX3_init 37 = .ok (.bipush 8, 2) := by decide +kernel
theorem dX3_init_39 : decode cX3_init 39 = .ok (.newarray .int, 2) := by decide +kernel
theorem dX3_init_41 : decode cX3_init 41 = .ok (.putfield 24, 3) := by decide +kernel
theorem dX3_init_44 : decode cX3_init 44 = .ok (.aload_n 0, 1) := by decide +kernel
theorem dX3_init_45 : decode cX3_init 45 = .ok (.iconst 0, 1) := by decide +kernel
theorem dX3_init_46 : decode cX3_init 46 = .ok (.putfield 27, 3) := by decide +kernel
theorem dX3_init_49 : decode cX3_init 49 = .ok (.aload_n 0, 1) := by decide +kernel
theorem dX3_init_50 : decode cX3_init 50 = .ok (.iconst 0, 1) := by decide +kernel
theorem dX3_init_51 : decode cX3_init 51 = .ok (.putfield 31, 3) := by decide +kernel
theorem dX3_init_54 : decode cX3_init 54 = .ok (.return_, 1) := by decide +kernel
theorem dX3_copyFrom_0 : decode cX3_copyFrom 0 = .ok (.iconst 0, 1) := by decide +kernel
theorem dX3_copyFrom_1 : decode cX3_copyFrom 1 = .ok (.istore_n 2, 1) := by decide +kernel
theorem dX3_copyFrom_2 : decode cX3_copyFrom 2 = .ok (.iload_n 2, 1) := by decide +kernel
theorem dX3_copyFrom_3 : decode cX3_copyFrom 3 = .ok (.bipush 8, 2) := by decide +kernel
theorem dX3_copyFrom_5 : decode cX3_copyFrom 5 = .ok (.if_icmp .ge 16, 3) := by decide +kernel
theorem dX3_copyFrom_8 : decode cX3_copyFrom 8 = .ok (.aload_n 0, 1) := by decide +kernel
theorem dX3_copyFrom_9 : decode cX3_copyFrom 9 = .ok (.iload_n 2, 1) := by decide +kernel
theorem dX3_copyFrom_10 : decode cX3_copyFrom 10 = .ok (.aload_n 1, 1) := by decide +kernel
theorem dX3_copyFrom_11 : decode cX3_copyFrom 11 = .ok (.iload_n 2, 1) := by decide +kernel
theorem dX3_copyFrom_12 : decode cX3_copyFrom 12 = .ok (.invokevirtual 34, 3) := by decide +kernel
theorem dX3_copyFrom_15 : decode cX3_copyFrom 15 = .ok (.iinc 2 1, 3) := by decide +kernel
theorem dX3_copyFrom_18 : decode cX3_copyFrom 18 = .ok (.goto (-16), 3) := by decide +kernel
theorem dX3_copyFrom_21 : decode cX3_copyFrom 21 = .ok (.aload_n 0, 1) := by decide +kernel
theorem dX3_copyFrom_22 : decode cX3_copyFrom 22 = .ok (.aload_n 1, 1) := by decide +kernel
theorem dX3_copyFrom_23 : decode cX3_copyFrom 23 = .ok (.getfield 27, 3) := by decide +kernel
theorem dX3_copyFrom_26 : decode cX3_copyFrom 26 = .ok (.putfield 27, 3) := by decide +kernel
theorem dX3_copyFrom_29 : decode cX3_copyFrom 29 = .ok (.aload_n 0, 1) := by decide +kernel
theorem dX3_copyFrom_30 : decode cX3_copyFrom 30 = .ok (.aload_n 1, 1) := by decide +kernel
theorem dX3_copyFrom_31 : decode cX3_copyFrom 31 = .ok (.getfield 31, 3) := by decide +kernel
theorem dX3_copyFrom_34 : decode cX3_copyFrom 34 = .ok (.putfield 31, 3) := by decide +kernel
theorem dX3_copyFrom_37 : decode cX3_copyFrom 37 = .ok (.return_, 1) := by decide +kernel
theorem dX3_positionOf_0 : decode cX3_positionOf 0 = .ok (.iconst 0, 1) := by decide +kernel
theorem dX3_positionOf_1 : decode cX3_positionOf 1 = .ok (.istore_n 2, 1) := by decide +kernel
theorem dX3_positionOf_2 : decode cX3_positionOf 2 = .ok (.iload_n 2, 1) := by decide +kernel
theorem dX3_positionOf_3 : decode cX3_positionOf 3 = .ok (.aload_n 0, 1) := by decide +kernel
theorem dX3_positionOf_4 : decode cX3_positionOf 4 = .ok (.getfield 27, 3) := by decide +kernel
theorem dX3_positionOf_7 : decode cX3_positionOf 7 = .ok (.if_icmp .ge 21, 3) := by decide +kernel
theorem dX3_positionOf_10 : decode cX3_positionOf 10 = .ok (.aload_n 0, 1) := by decide +kernel
theorem dX3_positionOf_11 : decode cX3_positionOf 11 = .ok (.getfield 9, 3) := by decide +kernel
theorem dX3_positionOf_14 : decode cX3_positionOf 14 = .ok (.iload_n 2, 1) := by decide +kernel
theorem dX3_positionOf_15 : decode cX3_positionOf 15 = .ok (.iaload, 1) := by decide +kernel
theorem dX3_positionOf_16 : decode cX3_positionOf 16 = .ok (.iload_n 1, 1) := by decide +kernel
theorem dX3_positionOf_17 : decode cX3_positionOf 17 = .ok (.if_icmp .ne 5, 3) := by decide +kernel
theorem dX3_positionOf_20 : decode cX3_positionOf 20 = .ok (.iload_n 2, 1) := by decide +kernel
theorem dX3_positionOf_21 : decode cX3_positionOf 21 = .ok (.ireturn, 1) := by decide +kernel
theorem dX3_positionOf_22 : decode cX3_positionOf 22 = .ok (.iinc 2 1, 3) := by decide +kernel
theorem dX3_positionOf_25 : decode cX3_positionOf 25 = .ok (.goto (-23), 3) := by decide +kernel
theorem dX3_positionOf_28 : decode cX3_positionOf 28 = .ok (.iconst (-1), 1) := by decide +kernel
theorem dX3_positionOf_29 : decode cX3_positionOf 29 = .ok (.ireturn, 1) := by decide +kernel
theorem dX3_firstOf_0 : decode cX3_firstOf 0 = .ok (.iconst 0, 1) := by decide +kernel
theorem dX3_firstOf_1 : decode cX3_firstOf 1 = .ok (.istore_n 2, 1) := by decide +kernel
theorem dX3_firstOf_2 : decode cX3_firstOf 2 = .ok (.iload_n 2, 1) := by decide +kernel
theorem dX3_firstOf_3 : decode cX3_firstOf 3 = .ok (.aload_n 0, 1) := by decide +kernel
theorem dX3_firstOf_4 : decode cX3_firstOf 4 = .ok (.getfield 27, 3) := by decide +kernel
theorem dX3_firstOf_7 : decode cX3_firstOf 7 = .ok (.if_icmp .ge 21, 3) := by decide +kernel
theorem dX3_firstOf_10 : decode cX3_firstOf 10 = .ok (.aload_n 0, 1) := by decide +kernel
theorem dX3_firstOf_11 : decode cX3_firstOf 11 = .ok (.getfield 15, 3) := by decide +kernel
theorem dX3_firstOf_14 : decode cX3_firstOf 14 = .ok (.iload_n 2, 1) := by decide +kernel
theorem dX3_firstOf_15 : decode cX3_firstOf 15 = .ok (.iaload, 1) := by decide +kernel
theorem dX3_firstOf_16 : decode cX3_firstOf 16 = .ok (.iload_n 1, 1) := by decide +kernel
theorem dX3_firstOf_17 : decode cX3_firstOf 17 = .ok (.if_icmp .ne 5, 3) := by decide +kernel
theorem dX3_firstOf_20 : decode cX3_firstOf 20 = .ok (.iload_n 2, 1) := by decide +kernel
theorem dX3_firstOf_21 : decode cX3_firstOf 21 = .ok (.ireturn, 1) := by decide +kernel
theorem dX3_firstOf_22 : decode cX3_firstOf 22 = .ok (.iinc 2 1, 3) := by decide +kernel
theorem dX3_firstOf_25 : decode cX3_firstOf 25 = .ok (.goto (-23), 3) := by decide +kernel
theorem dX3_firstOf_28 : decode cX3_firstOf 28 = .ok (.iconst (-1), 1) := by decide +kernel
theorem dX3_firstOf_29 : decode cX3_firstOf 29 = .ok (.ireturn, 1) := by decide +kernel
theorem dX3_areFor_0 : decode cX3_areFor 0 = .ok (.iconst 0, 1) := by decide +kernel
theorem dX3_areFor_1 : decode cX3_areFor 1 = .ok (.istore_n 3, 1) := by decide +kernel
theorem dX3_areFor_2 : decode cX3_areFor 2 = .ok (.iload_n 3, 1) := by decide +kernel
theorem dX3_areFor_3 : decode cX3_areFor 3 = .ok (.aload_n 0, 1) := by decide +kernel
theorem dX3_areFor_4 : decode cX3_areFor 4 = .ok (.getfield 27, 3) := by decide +kernel
theorem dX3_areFor_7 : decode cX3_areFor 7 = .ok (.if_icmp .ge 31, 3) := by decide +kernel
theorem dX3_areFor_10 : decode cX3_areFor 10 = .ok (.aload_n 0, 1) := by decide +kernel
theorem dX3_areFor_11 : decode cX3_areFor 11 = .ok (.getfield 15, 3) := by decide +kernel
theorem dX3_areFor_14 : decode cX3_areFor 14 = .ok (.iload_n 3, 1) := by decide +kernel
theorem dX3_areFor_15 : decode cX3_areFor 15 = .ok (.iaload, 1) := by decide +kernel
theorem dX3_areFor_16 : decode cX3_areFor 16 = .ok (.iload_n 1, 1) := by decide +kernel
theorem dX3_areFor_17 : decode cX3_areFor 17 = .ok (.if_icmp .ne 15, 3) := by decide +kernel
theorem dX3_areFor_20 : decode cX3_areFor 20 = .ok (.aload_n 0, 1) := by decide +kernel
theorem dX3_areFor_21 : decode cX3_areFor 21 = .ok (.getfield 18, 3) := by decide +kernel
theorem dX3_areFor_24 : decode cX3_areFor 24 = .ok (.iload_n 3, 1) := by decide +kernel
theorem dX3_areFor_25 : decode cX3_areFor 25 = .ok (.iaload, 1) := by decide +kernel
theorem dX3_areFor_26 : decode cX3_areFor 26 = .ok (.iload_n 2, 1) := by decide +kernel
theorem dX3_areFor_27 : decode cX3_areFor 27 = .ok (.if_icmp .ne 5, 3) := by decide +kernel
theorem dX3_areFor_30 : decode cX3_areFor 30 = .ok (.iconst 1, 1) := by decide +kernel
theorem dX3_areFor_31 : decode cX3_areFor 31 = .ok (.ireturn, 1) := by decide +kernel
theorem dX3_areFor_32 : decode cX3_areFor 32 = .ok (.iinc 3 1, 3) := by decide +kernel
theorem dX3_areFor_35 : decode cX3_areFor 35 = .ok (.goto (-33), 3) := by decide +kernel
theorem dX3_areFor_38 : decode cX3_areFor 38 = .ok (.iconst 0, 1) := by decide +kernel
theorem dX3_areFor_39 : decode cX3_areFor 39 = .ok (.ireturn, 1) := by decide +kernel
theorem dX3_anyTwiceForARoom_0 : decode cX3_anyTwiceForARoom 0 = .ok (.iconst 0, 1) := by decide +kernel
theorem dX3_anyTwiceForARoom_1 : decode cX3_anyTwiceForARoom 1 = .ok (.istore_n 1, 1) := by decide +kernel
theorem dX3_anyTwiceForARoom_2 : decode cX3_anyTwiceForARoom 2 = .ok (.iload_n 1, 1) := by decide +kernel
theorem dX3_anyTwiceForARoom_3 : decode cX3_anyTwiceForARoom 3 = .ok (.aload_n 0, 1) := by decide +kernel
theorem dX3_anyTwiceForARoom_4 : decode cX3_anyTwiceForARoom 4 = .ok (.getfield 27, 3) := by decide +kernel
theorem dX3_anyTwiceForARoom_7 : decode cX3_anyTwiceForARoom 7 = .ok (.if_icmp .ge 59, 3) := by decide +kernel
theorem dX3_anyTwiceForARoom_10 : decode cX3_anyTwiceForARoom 10 = .ok (.iload_n 1, 1) := by decide +kernel
theorem dX3_anyTwiceForARoom_11 : decode cX3_anyTwiceForARoom 11 = .ok (.iconst 1, 1) := by decide +kernel
theorem dX3_anyTwiceForARoom_12 : decode cX3_anyTwiceForARoom 12 = .ok (.iadd, 1) := by decide +kernel
theorem dX3_anyTwiceForARoom_13 : decode cX3_anyTwiceForARoom 13 = .ok (.istore_n 2, 1) := by decide +kernel
theorem dX3_anyTwiceForARoom_14 : decode cX3_anyTwiceForARoom 14 = .ok (.iload_n 2, 1) := by decide +kernel
theorem dX3_anyTwiceForARoom_15 : decode cX3_anyTwiceForARoom 15 = .ok (.aload_n 0, 1) := by decide +kernel
theorem dX3_anyTwiceForARoom_16 : decode cX3_anyTwiceForARoom 16 = .ok (.getfield 27, 3) := by decide +kernel
theorem dX3_anyTwiceForARoom_19 : decode cX3_anyTwiceForARoom 19 = .ok (.if_icmp .ge 41, 3) := by decide +kernel
theorem dX3_anyTwiceForARoom_22 : decode cX3_anyTwiceForARoom 22 = .ok (.aload_n 0, 1) := by decide +kernel
theorem dX3_anyTwiceForARoom_23 : decode cX3_anyTwiceForARoom 23 = .ok (.getfield 15, 3) := by decide +kernel
theorem dX3_anyTwiceForARoom_26 : decode cX3_anyTwiceForARoom 26 = .ok (.iload_n 1, 1) := by decide +kernel
theorem dX3_anyTwiceForARoom_27 : decode cX3_anyTwiceForARoom 27 = .ok (.iaload, 1) := by decide +kernel
theorem dX3_anyTwiceForARoom_28 : decode cX3_anyTwiceForARoom 28 = .ok (.aload_n 0, 1) := by decide +kernel
theorem dX3_anyTwiceForARoom_29 : decode cX3_anyTwiceForARoom 29 = .ok (.getfield 15, 3) := by decide +kernel
theorem dX3_anyTwiceForARoom_32 : decode cX3_anyTwiceForARoom 32 = .ok (.iload_n 2, 1) := by decide +kernel
theorem dX3_anyTwiceForARoom_33 : decode cX3_anyTwiceForARoom 33 = .ok (.iaload, 1) := by decide +kernel
theorem dX3_anyTwiceForARoom_34 : decode cX3_anyTwiceForARoom 34 = .ok (.if_icmp .ne 20, 3) := by decide +kernel
theorem dX3_anyTwiceForARoom_37 : decode cX3_anyTwiceForARoom 37 = .ok (.aload_n 0, 1) := by decide +kernel
theorem dX3_anyTwiceForARoom_38 : decode cX3_anyTwiceForARoom 38 = .ok (.getfield 18, 3) := by decide +kernel
theorem dX3_anyTwiceForARoom_41 : decode cX3_anyTwiceForARoom 41 = .ok (.iload_n 1, 1) := by decide +kernel
theorem dX3_anyTwiceForARoom_42 : decode cX3_anyTwiceForARoom 42 = .ok (.iaload, 1) := by decide +kernel
theorem dX3_anyTwiceForARoom_43 : decode cX3_anyTwiceForARoom 43 = .ok (.aload_n 0, 1) := by decide +kernel
theorem dX3_anyTwiceForARoom_44 : decode cX3_anyTwiceForARoom 44 = .ok (.getfield 18, 3) := by decide +kernel
theorem dX3_anyTwiceForARoom_47 : decode cX3_anyTwiceForARoom 47 = .ok (.iload_n 2, 1) := by decide +kernel
theorem dX3_anyTwiceForARoom_48 : decode cX3_anyTwiceForARoom 48 = .ok (.iaload, 1) := by decide +kernel
theorem dX3_anyTwiceForARoom_49 : decode cX3_anyTwiceForARoom 49 = .ok (.if_icmp .ne 5, 3) := by decide +kernel
theorem dX3_anyTwiceForARoom_52 : decode cX3_anyTwiceForARoom 52 = .ok (.iconst 1, 1) := by decide +kernel
theorem dX3_anyTwiceForARoom_53 : decode cX3_anyTwiceForARoom 53 = .ok (.ireturn, 1) := by decide +kernel
theorem dX3_anyTwiceForARoom_54 : decode cX3_anyTwiceForARoom 54 = .ok (.iinc 2 1, 3) := by decide +kernel
theorem dX3_anyTwiceForARoom_57 : decode cX3_anyTwiceForARoom 57 = .ok (.goto (-43), 3) := by decide +kernel
theorem dX3_anyTwiceForARoom_60 : decode cX3_anyTwiceForARoom 60 = .ok (.iinc 1 1, 3) := by decide +kernel
theorem dX3_anyTwiceForARoom_63 : decode cX3_anyTwiceForARoom 63 = .ok (.goto (-61), 3) := by decide +kernel
theorem dX3_anyTwiceForARoom_66 : decode cX3_anyTwiceForARoom 66 = .ok (.iconst 0, 1) := by decide +kernel
theorem dX3_anyTwiceForARoom_67 : decode cX3_anyTwiceForARoom 67 = .ok (.ireturn, 1) := by decide +kernel
theorem dX3_removeAt_0 : decode cX3_removeAt 0 = .ok (.iload_n 1, 1) := by decide +kernel
theorem dX3_removeAt_1 : decode cX3_removeAt 1 = .ok (.istore_n 2, 1) := by decide +kernel
theorem dX3_removeAt_2 : decode cX3_removeAt 2 = .ok (.iload_n 2, 1) := by decide +kernel
theorem dX3_removeAt_3 : decode cX3_removeAt 3 = .ok (.aload_n 0, 1) := by decide +kernel
theorem dX3_removeAt_4 : decode cX3_removeAt 4 = .ok (.getfield 27, 3) := by decide +kernel
theorem dX3_removeAt_7 : decode cX3_removeAt 7 = .ok (.iconst 1, 1) := by decide +kernel
theorem dX3_removeAt_8 : decode cX3_removeAt 8 = .ok (.isub, 1) := by decide +kernel
theorem dX3_removeAt_9 : decode cX3_removeAt 9 = .ok (.if_icmp .ge 18, 3) := by decide +kernel
theorem dX3_removeAt_12 : decode cX3_removeAt 12 = .ok (.aload_n 0, 1) := by decide +kernel
theorem dX3_removeAt_13 : decode cX3_removeAt 13 = .ok (.iload_n 2, 1) := by decide +kernel
theorem dX3_removeAt_14 : decode cX3_removeAt 14 = .ok (.aload_n 0, 1) := by decide +kernel
theorem dX3_removeAt_15 : decode cX3_removeAt 15 = .ok (.iload_n 2, 1) := by decide +kernel
theorem dX3_removeAt_16 : decode cX3_removeAt 16 = .ok (.iconst 1, 1) := by decide +kernel
theorem dX3_removeAt_17 : decode cX3_removeAt 17 = .ok (.iadd, 1) := by decide +kernel
theorem dX3_removeAt_18 : decode cX3_removeAt 18 = .ok (.invokevirtual 34, 3) := by decide +kernel
theorem dX3_removeAt_21 : decode cX3_removeAt 21 = .ok (.iinc 2 1, 3) := by decide +kernel
theorem dX3_removeAt_24 : decode cX3_removeAt 24 = .ok (.goto (-22), 3) := by decide +kernel
theorem dX3_removeAt_27 : decode cX3_removeAt 27 = .ok (.aload_n 0, 1) := by decide +kernel
theorem dX3_removeAt_28 : decode cX3_removeAt 28 = .ok (.dup, 1) := by decide +kernel
theorem dX3_removeAt_29 : decode cX3_removeAt 29 = .ok (.getfield 27, 3) := by decide +kernel
theorem dX3_removeAt_32 : decode cX3_removeAt 32 = .ok (.iconst 1, 1) := by decide +kernel
theorem dX3_removeAt_33 : decode cX3_removeAt 33 = .ok (.isub, 1) := by decide +kernel
theorem dX3_removeAt_34 : decode cX3_removeAt 34 = .ok (.putfield 27, 3) := by decide +kernel
theorem dX3_removeAt_37 : decode cX3_removeAt 37 = .ok (.return_, 1) := by decide +kernel
theorem dX3_setRow_0 : decode cX3_setRow 0 = .ok (.aload_n 0, 1) := by decide +kernel
theorem dX3_setRow_1 : decode cX3_setRow 1 = .ok (.getfield 9, 3) := by decide +kernel
theorem dX3_setRow_4 : decode cX3_setRow 4 = .ok (.iload_n 1, 1) := by decide +kernel
theorem dX3_setRow_5 : decode cX3_setRow 5 = .ok (.aload_n 2, 1) := by decide +kernel
theorem dX3_setRow_6 : decode cX3_setRow 6 = .ok (.getfield 9, 3) := by decide +kernel
theorem dX3_setRow_9 : decode cX3_setRow 9 = .ok (.iload_n 3, 1) := by decide +kernel
theorem dX3_setRow_10 : decode cX3_setRow 10 = .ok (.iaload, 1) := by decide +kernel
theorem dX3_setRow_11 : decode cX3_setRow 11 = .ok (.iastore, 1) := by decide +kernel
theorem dX3_setRow_12 : decode cX3_setRow 12 = .ok (.aload_n 0, 1) := by decide +kernel
theorem dX3_setRow_13 : decode cX3_setRow 13 = .ok (.getfield 15, 3) := by decide +kernel
theorem dX3_setRow_16 : decode cX3_setRow 16 = .ok (.iload_n 1, 1) := by decide +kernel
theorem dX3_setRow_17 : decode cX3_setRow 17 = .ok (.aload_n 2, 1) := by decide +kernel
theorem dX3_setRow_18 : decode cX3_setRow 18 = .ok (.getfield 15, 3) := by decide +kernel
theorem dX3_setRow_21 : decode cX3_setRow 21 = .ok (.iload_n 3, 1) := by decide +kernel
theorem dX3_setRow_22 : decode cX3_setRow 22 = .ok (.iaload, 1) := by decide +kernel
theorem dX3_setRow_23 : decode cX3_setRow 23 = .ok (.iastore, 1) := by decide +kernel
theorem dX3_setRow_24 : decode cX3_setRow 24 = .ok (.aload_n 0, 1) := by decide +kernel
theorem dX3_setRow_25 : decode cX3_setRow 25 = .ok (.getfield 18, 3) := by decide +kernel
theorem dX3_setRow_28 : decode cX3_setRow 28 = .ok (.iload_n 1, 1) := by decide +kernel
theorem dX3_setRow_29 : decode cX3_setRow 29 = .ok (.aload_n 2, 1) := by decide +kernel
theorem dX3_setRow_30 : decode cX3_setRow 30 = .ok (.getfield 18, 3) := by decide +kernel
theorem dX3_setRow_33 : decode cX3_setRow 33 = .ok (.iload_n 3, 1) := by decide +kernel
theorem dX3_setRow_34 : decode cX3_setRow 34 = .ok (.iaload, 1) := by decide +kernel
theorem dX3_setRow_35 : decode cX3_setRow 35 = .ok (.iastore, 1) := by decide +kernel
theorem dX3_setRow_36 : decode cX3_setRow 36 = .ok (.aload_n 0, 1) := by decide +kernel
theorem dX3_setRow_37 : decode cX3_setRow 37 = .ok (.getfield 21, 3) := by decide +kernel
theorem dX3_setRow_40 : decode cX3_setRow 40 = .ok (.iload_n 1, 1) := by decide +kernel
theorem dX3_setRow_41 : decode cX3_setRow 41 = .ok (.aload_n 2, 1) := by decide +kernel
theorem dX3_setRow_42 : decode cX3_setRow 42 = .ok (.getfield 21, 3) := by decide +kernel
theorem dX3_setRow_45 : decode cX3_setRow 45 = .ok (.iload_n 3, 1) := by decide +kernel
theorem dX3_setRow_46 : decode cX3_setRow 46 = .ok (.iaload, 1) := by decide +kernel
theorem dX3_setRow_47 : decode cX3_setRow 47 = .ok (.iastore, 1) := by decide +kernel
theorem dX3_setRow_48 : decode cX3_setRow 48 = .ok (.aload_n 0, 1) := by decide +kernel
theorem dX3_setRow_49 : decode cX3_setRow 49 = .ok (.getfield 24, 3) := by decide +kernel
theorem dX3_setRow_52 : decode cX3_setRow 52 = .ok (.iload_n 1, 1) := by decide +kernel
theorem dX3_setRow_53 : decode cX3_setRow 53 = .ok (.aload_n 2, 1) := by decide +kernel
theorem dX3_setRow_54 : decode cX3_setRow 54 = .ok (.getfield 24, 3) := by decide +kernel
theorem dX3_setRow_57 : decode cX3_setRow 57 = .ok (.iload_n 3, 1) := by decide +kernel
theorem dX3_setRow_58 : decode cX3_setRow 58 = .ok (.iaload, 1) := by decide +kernel
theorem dX3_setRow_59 : decode cX3_setRow 59 = .ok (.iastore, 1) := by decide +kernel
theorem dX3_setRow_60 : decode cX3_setRow 60 = .ok (.return_, 1) := by decide +kernel
theorem dX3_bestOfAllSets_0 : decode cX3_bestOfAllSets 0 = .ok (.iconst 0, 1) := by decide +kernel
theorem dX3_bestOfAllSets_1 : decode cX3_bestOfAllSets 1 = .ok (.istore_n 3, 1) := by decide +kernel
theorem dX3_bestOfAllSets_2 : decode cX3_bestOfAllSets 2 = .ok (.iconst 0, 1) := by decide +kernel
theorem dX3_bestOfAllSets_3 : decode cX3_bestOfAllSets 3 = .ok (.istore 4, 2) := by decide +kernel
theorem dX3_bestOfAllSets_5 : decode cX3_bestOfAllSets 5 = .ok (.iload 4, 2) := by decide +kernel
theorem dX3_bestOfAllSets_7 : decode cX3_bestOfAllSets 7 = .ok (.iconst 1, 1) := by decide +kernel
theorem dX3_bestOfAllSets_8 : decode cX3_bestOfAllSets 8 = .ok (.aload_n 0, 1) := by decide +kernel
theorem dX3_bestOfAllSets_9 : decode cX3_bestOfAllSets 9 = .ok (.getfield 27, 3) := by decide +kernel
theorem dX3_bestOfAllSets_12 : decode cX3_bestOfAllSets 12 = .ok (.ishl, 1) := by decide +kernel
theorem dX3_bestOfAllSets_13 : decode cX3_bestOfAllSets 13 = .ok (.if_icmp .ge 22, 3) := by decide +kernel
theorem dX3_bestOfAllSets_16 : decode cX3_bestOfAllSets 16 = .ok (.iload_n 3, 1) := by decide +kernel
theorem dX3_bestOfAllSets_17 : decode cX3_bestOfAllSets 17 = .ok (.aload_n 0, 1) := by decide +kernel
theorem dX3_bestOfAllSets_18 : decode cX3_bestOfAllSets 18 = .ok (.iload 4, 2) := by decide +kernel
theorem dX3_bestOfAllSets_20 : decode cX3_bestOfAllSets 20 = .ok (.iload_n 1, 1) := by decide +kernel
theorem dX3_bestOfAllSets_21 : decode cX3_bestOfAllSets 21 = .ok (.iload_n 2, 1) := by decide +kernel
theorem dX3_bestOfAllSets_22 : decode cX3_bestOfAllSets 22 = .ok (.invokevirtual 38, 3) := by decide +kernel
theorem dX3_bestOfAllSets_25 : decode cX3_bestOfAllSets 25 = .ok (.invokestatic 42, 3) := by decide +kernel
theorem dX3_bestOfAllSets_28 : decode cX3_bestOfAllSets 28 = .ok (.istore_n 3, 1) := by decide +kernel
theorem dX3_bestOfAllSets_29 : decode cX3_bestOfAllSets 29 = .ok (.iinc 4 1, 3) := by decide +kernel
theorem dX3_bestOfAllSets_32 : decode cX3_bestOfAllSets 32 = .ok (.goto (-27), 3) := by decide +kernel
theorem dX3_bestOfAllSets_35 : decode cX3_bestOfAllSets 35 = .ok (.iload_n 3, 1) := by decide +kernel
theorem dX3_bestOfAllSets_36 : decode cX3_bestOfAllSets 36 = .ok (.ireturn, 1) := by decide +kernel
theorem dX3_wagesOfSet_0 : decode cX3_wagesOfSet 0 = .ok (.iconst 0, 1) := by decide +kernel
theorem dX3_wagesOfSet_1 : decode cX3_wagesOfSet 1 = .ok (.istore 4, 2) := by decide +kernel
theorem dX3_wagesOfSet_3 : decode cX3_wagesOfSet 3 = .ok (.iload_n 3, 1) := by decide +kernel
theorem dX3_wagesOfSet_4 : decode cX3_wagesOfSet 4 = .ok (.istore 5, 2) := by decide +kernel
theorem dX3_wagesOfSet_6 : decode cX3_wagesOfSet 6 = .ok (.iconst 0, 1) := by decide +kernel
theorem dX3_wagesOfSet_7 : decode cX3_wagesOfSet 7 = .ok (.istore 6, 2) := by decide +kernel
theorem dX3_wagesOfSet_9 : decode cX3_wagesOfSet 9 = .ok (.iload 6, 2) := by decide +kernel
theorem dX3_wagesOfSet_11 : decode cX3_wagesOfSet 11 = .ok (.aload_n 0, 1) := by decide +kernel
theorem dX3_wagesOfSet_12 : decode cX3_wagesOfSet 12 = .ok (.getfield 27, 3) := by decide +kernel
theorem dX3_wagesOfSet_15 : decode cX3_wagesOfSet 15 = .ok (.if_icmp .ge 68, 3) := by decide +kernel
theorem dX3_wagesOfSet_18 : decode cX3_wagesOfSet 18 = .ok (.iload_n 1, 1) := by decide +kernel
theorem dX3_wagesOfSet_19 : decode cX3_wagesOfSet 19 = .ok (.iload 6, 2) := by decide +kernel
theorem dX3_wagesOfSet_21 : decode cX3_wagesOfSet 21 = .ok (.ishr, 1) := by decide +kernel
theorem dX3_wagesOfSet_22 : decode cX3_wagesOfSet 22 = .ok (.iconst 1, 1) := by decide +kernel
theorem dX3_wagesOfSet_23 : decode cX3_wagesOfSet 23 = .ok (.iand, 1) := by decide +kernel
theorem dX3_wagesOfSet_24 : decode cX3_wagesOfSet 24 = .ok (.iconst 1, 1) := by decide +kernel
theorem dX3_wagesOfSet_25 : decode cX3_wagesOfSet 25 = .ok (.if_icmp .ne 52, 3) := by decide +kernel
theorem dX3_wagesOfSet_28 : decode cX3_wagesOfSet 28 = .ok (.aload_n 0, 1) := by decide +kernel
theorem dX3_wagesOfSet_29 : decode cX3_wagesOfSet 29 = .ok (.getfield 15, 3) := by decide +kernel
theorem dX3_wagesOfSet_32 : decode cX3_wagesOfSet 32 = .ok (.iload 6, 2) := by decide +kernel
theorem dX3_wagesOfSet_34 : decode cX3_wagesOfSet 34 = .ok (.iaload, 1) := by decide +kernel
theorem dX3_wagesOfSet_35 : decode cX3_wagesOfSet 35 = .ok (.iload_n 2, 1) := by decide +kernel
theorem dX3_wagesOfSet_36 : decode cX3_wagesOfSet 36 = .ok (.if_icmp .ne 15, 3) := by decide +kernel
theorem dX3_wagesOfSet_39 : decode cX3_wagesOfSet 39 = .ok (.aload_n 0, 1) := by decide +kernel
theorem dX3_wagesOfSet_40 : decode cX3_wagesOfSet 40 = .ok (.getfield 24, 3) := by decide +kernel
theorem dX3_wagesOfSet_43 : decode cX3_wagesOfSet 43 = .ok (.iload 6, 2) := by decide +kernel
theorem dX3_wagesOfSet_45 : decode cX3_wagesOfSet 45 = .ok (.iaload, 1) := by decide +kernel
theorem dX3_wagesOfSet_46 : decode cX3_wagesOfSet 46 = .ok (.iload 5, 2) := by decide +kernel
theorem dX3_wagesOfSet_48 : decode cX3_wagesOfSet 48 = .ok (.if_icmp .le 5, 3) := by decide +kernel
theorem dX3_wagesOfSet_51 : decode cX3_wagesOfSet 51 = .ok (.iconst 0, 1) := by decide +kernel
theorem dX3_wagesOfSet_52 : decode cX3_wagesOfSet 52 = .ok (.ireturn, 1) := by decide +kernel
theorem dX3_wagesOfSet_53 : decode cX3_wagesOfSet 53 = .ok (.iload 5, 2) := by decide +kernel
theorem dX3_wagesOfSet_55 : decode cX3_wagesOfSet 55 = .ok (.aload_n 0, 1) := by decide +kernel
theorem dX3_wagesOfSet_56 : decode cX3_wagesOfSet 56 = .ok (.getfield 24, 3) := by decide +kernel
theorem dX3_wagesOfSet_59 : decode cX3_wagesOfSet 59 = .ok (.iload 6, 2) := by decide +kernel
theorem dX3_wagesOfSet_61 : decode cX3_wagesOfSet 61 = .ok (.iaload, 1) := by decide +kernel
theorem dX3_wagesOfSet_62 : decode cX3_wagesOfSet 62 = .ok (.isub, 1) := by decide +kernel
theorem dX3_wagesOfSet_63 : decode cX3_wagesOfSet 63 = .ok (.istore 5, 2) := by decide +kernel
theorem dX3_wagesOfSet_65 : decode cX3_wagesOfSet 65 = .ok (.iload 4, 2) := by decide +kernel
theorem dX3_wagesOfSet_67 : decode cX3_wagesOfSet 67 = .ok (.aload_n 0, 1) := by decide +kernel
theorem dX3_wagesOfSet_68 : decode cX3_wagesOfSet 68 = .ok (.getfield 21, 3) := by decide +kernel
theorem dX3_wagesOfSet_71 : decode cX3_wagesOfSet 71 = .ok (.iload 6, 2) := by decide +kernel
theorem dX3_wagesOfSet_73 : decode cX3_wagesOfSet 73 = .ok (.iaload, 1) := by decide +kernel
theorem dX3_wagesOfSet_74 : decode cX3_wagesOfSet 74 = .ok (.iadd, 1) := by decide +kernel
theorem dX3_wagesOfSet_75 : decode cX3_wagesOfSet 75 = .ok (.istore 4, 2) := by decide +kernel
theorem dX3_wagesOfSet_77 : decode cX3_wagesOfSet 77 = .ok (.iinc 6 1, 3) := by decide +kernel
theorem dX3_wagesOfSet_80 : decode cX3_wagesOfSet 80 = .ok (.goto (-71), 3) := by decide +kernel
theorem dX3_wagesOfSet_83 : decode cX3_wagesOfSet 83 = .ok (.iload 4, 2) := by decide +kernel
theorem dX3_wagesOfSet_85 : decode cX3_wagesOfSet 85 = .ok (.ireturn, 1) := by decide +kernel
theorem dX3_bestOfTable_0 : decode cX3_bestOfTable 0 = .ok (.iconst 0, 1) := by decide +kernel
theorem dX3_bestOfTable_1 : decode cX3_bestOfTable 1 = .ok (.istore 4, 2) := by decide +kernel
theorem dX3_bestOfTable_3 : decode cX3_bestOfTable 3 = .ok (.iload 4, 2) := by decide +kernel
theorem dX3_bestOfTable_5 : decode cX3_bestOfTable 5 = .ok (.aload_n 3, 1) := by decide +kernel
theorem dX3_bestOfTable_6 : decode cX3_bestOfTable 6 = .ok (.arraylength, 1) := by decide +kernel
theorem dX3_bestOfTable_7 : decode cX3_bestOfTable 7 = .ok (.if_icmp .ge 14, 3) := by decide +kernel
theorem dX3_bestOfTable_10 : decode cX3_bestOfTable 10 = .ok (.aload_n 3, 1) := by decide +kernel
theorem dX3_bestOfTable_11 : decode cX3_bestOfTable 11 = .ok (.iload 4, 2) := by decide +kernel
theorem dX3_bestOfTable_13 : decode cX3_bestOfTable 13 = .ok (.iconst 0, 1) := by decide +kernel
theorem dX3_bestOfTable_14 : decode cX3_bestOfTable 14 = .ok (.iastore, 1) := by decide +kernel
theorem dX3_bestOfTable_15 : decode cX3_bestOfTable 15 = .ok (.iinc 4 1, 3) := by decide +kernel
theorem dX3_bestOfTable_18 : decode cX3_bestOfTable 18 = .ok (.goto (-15), 3) := by decide +kernel
theorem dX3_bestOfTable_21 : decode cX3_bestOfTable 21 = .ok (.iconst 0, 1) := by decide +kernel
theorem dX3_bestOfTable_22 : decode cX3_bestOfTable 22 = .ok (.istore 4, 2) := by decide +kernel
theorem dX3_bestOfTable_24 : decode cX3_bestOfTable 24 = .ok (.iload 4, 2) := by decide +kernel
theorem dX3_bestOfTable_26 : decode cX3_bestOfTable 26 = .ok (.aload_n 0, 1) := by decide +kernel
theorem dX3_bestOfTable_27 : decode cX3_bestOfTable 27 = .ok (.getfield 27, 3) := by decide +kernel
theorem dX3_bestOfTable_30 : decode cX3_bestOfTable 30 = .ok (.if_icmp .ge 38, 3) := by decide +kernel
theorem dX3_bestOfTable_33 : decode cX3_bestOfTable 33 = .ok (.aload_n 0, 1) := by decide +kernel
theorem dX3_bestOfTable_34 : decode cX3_bestOfTable 34 = .ok (.getfield 15, 3) := by decide +kernel
theorem dX3_bestOfTable_37 : decode cX3_bestOfTable 37 = .ok (.iload 4, 2) := by decide +kernel
theorem dX3_bestOfTable_39 : decode cX3_bestOfTable 39 = .ok (.iaload, 1) := by decide +kernel
theorem dX3_bestOfTable_40 : decode cX3_bestOfTable 40 = .ok (.iload_n 1, 1) := by decide +kernel
theorem dX3_bestOfTable_41 : decode cX3_bestOfTable 41 = .ok (.if_icmp .ne 21, 3) := by decide +kernel
theorem dX3_bestOfTable_44 : decode cX3_bestOfTable 44 = .ok (.aload_n 0, 1) := by decide +kernel
theorem dX3_bestOfTable_45 : decode cX3_bestOfTable 45 = .ok (.getfield 21, 3) := by decide +kernel
theorem dX3_bestOfTable_48 : decode cX3_bestOfTable 48 = .ok (.iload 4, 2) := by decide +kernel
theorem dX3_bestOfTable_50 : decode cX3_bestOfTable 50 = .ok (.iaload, 1) := by decide +kernel
theorem dX3_bestOfTable_51 : decode cX3_bestOfTable 51 = .ok (.aload_n 0, 1) := by decide +kernel
theorem dX3_bestOfTable_52 : decode cX3_bestOfTable 52 = .ok (.getfield 24, 3) := by decide +kernel
theorem dX3_bestOfTable_55 : decode cX3_bestOfTable 55 = .ok (.iload 4, 2) := by decide +kernel
theorem dX3_bestOfTable_57 : decode cX3_bestOfTable 57 = .ok (.iaload, 1) := by decide +kernel
theorem dX3_bestOfTable_58 : decode cX3_bestOfTable 58 = .ok (.aload_n 3, 1) := by decide +kernel
theorem dX3_bestOfTable_59 : decode cX3_bestOfTable 59 = .ok (.invokestatic 48, 3) := by decide +kernel
theorem dX3_bestOfTable_62 : decode cX3_bestOfTable 62 = .ok (.iinc 4 1, 3) := by decide +kernel
theorem dX3_bestOfTable_65 : decode cX3_bestOfTable 65 = .ok (.goto (-41), 3) := by decide +kernel
theorem dX3_bestOfTable_68 : decode cX3_bestOfTable 68 = .ok (.iload_n 2, 1) := by decide +kernel
theorem dX3_bestOfTable_69 : decode cX3_bestOfTable 69 = .ok (.ifCond .lt 15, 3) := by decide +kernel
theorem dX3_bestOfTable_72 : decode cX3_bestOfTable 72 = .ok (.iload_n 2, 1) := by decide +kernel
theorem dX3_bestOfTable_73 : decode cX3_bestOfTable 73 = .ok (.aload_n 3, 1) := by decide +kernel
theorem dX3_bestOfTable_74 : decode cX3_bestOfTable 74 = .ok (.arraylength, 1) := by decide +kernel
theorem dX3_bestOfTable_75 : decode cX3_bestOfTable 75 = .ok (.if_icmp .ge 9, 3) := by decide +kernel
theorem dX3_bestOfTable_78 : decode cX3_bestOfTable 78 = .ok (.aload_n 3, 1) := by decide +kernel
theorem dX3_bestOfTable_79 : decode cX3_bestOfTable 79 = .ok (.iload_n 2, 1) := by decide +kernel
theorem dX3_bestOfTable_80 : decode cX3_bestOfTable 80 = .ok (.iaload, 1) := by decide +kernel
theorem dX3_bestOfTable_81 : decode cX3_bestOfTable 81 = .ok (.goto 4, 3) := by decide +kernel
theorem dX3_bestOfTable_84 : decode cX3_bestOfTable 84 = .ok (.iconst 0, 1) := by decide +kernel
theorem dX3_bestOfTable_85 : decode cX3_bestOfTable 85 = .ok (.ireturn, 1) := by decide +kernel
theorem dX3_enterInTable_0 : decode cX3_enterInTable 0 = .ok (.aload_n 2, 1) := by decide +kernel
theorem dX3_enterInTable_1 : decode cX3_enterInTable 1 = .ok (.arraylength, 1) := by decide +kernel
theorem dX3_enterInTable_2 : decode cX3_enterInTable 2 = .ok (.iconst 1, 1) := by decide +kernel
theorem dX3_enterInTable_3 : decode cX3_enterInTable 3 = .ok (.isub, 1) := by decide +kernel
theorem dX3_enterInTable_4 : decode cX3_enterInTable 4 = .ok (.istore_n 3, 1) := by decide +kernel
theorem dX3_enterInTable_5 : decode cX3_enterInTable 5 = .ok (.iload_n 3, 1) := by decide +kernel
theorem dX3_enterInTable_6 : decode cX3_enterInTable 6 = .ok (.iload_n 1, 1) := by decide +kernel
theorem dX3_enterInTable_7 : decode cX3_enterInTable 7 = .ok (.if_icmp .lt 29, 3) := by decide +kernel
theorem dX3_enterInTable_10 : decode cX3_enterInTable 10 = .ok (.aload_n 2, 1) := by decide +kernel
theorem dX3_enterInTable_11 : decode cX3_enterInTable 11 = .ok (.iload_n 3, 1) := by decide +kernel
theorem dX3_enterInTable_12 : decode cX3_enterInTable 12 = .ok (.iload_n 1, 1) := by decide +kernel
theorem dX3_enterInTable_13 : decode cX3_enterInTable 13 = .ok (.isub, 1) := by decide +kernel
theorem dX3_enterInTable_14 : decode cX3_enterInTable 14 = .ok (.iaload, 1) := by decide +kernel
theorem dX3_enterInTable_15 : decode cX3_enterInTable 15 = .ok (.iload_n 0, 1) := by decide +kernel
theorem dX3_enterInTable_16 : decode cX3_enterInTable 16 = .ok (.iadd, 1) := by decide +kernel
theorem dX3_enterInTable_17 : decode cX3_enterInTable 17 = .ok (.istore 4, 2) := by decide +kernel
theorem dX3_enterInTable_19 : decode cX3_enterInTable 19 = .ok (.aload_n 2, 1) := by decide +kernel
theorem dX3_enterInTable_20 : decode cX3_enterInTable 20 = .ok (.iload_n 3, 1) := by decide +kernel
theorem dX3_enterInTable_21 : decode cX3_enterInTable 21 = .ok (.aload_n 2, 1) := by decide +kernel
theorem dX3_enterInTable_22 : decode cX3_enterInTable 22 = .ok (.iload_n 3, 1) := by decide +kernel
theorem dX3_enterInTable_23 : decode cX3_enterInTable 23 = .ok (.iaload, 1) := by decide +kernel
theorem dX3_enterInTable_24 : decode cX3_enterInTable 24 = .ok (.iload 4, 2) := by decide +kernel
theorem dX3_enterInTable_26 : decode cX3_enterInTable 26 = .ok (.invokestatic 42, 3) := by decide +kernel
theorem dX3_enterInTable_29 : decode cX3_enterInTable 29 = .ok (.iastore, 1) := by decide +kernel
theorem dX3_enterInTable_30 : decode cX3_enterInTable 30 = .ok (.iinc 3 (-1), 3) := by decide +kernel
theorem dX3_enterInTable_33 : decode cX3_enterInTable 33 = .ok (.goto (-28), 3) := by decide +kernel
theorem dX3_enterInTable_36 : decode cX3_enterInTable 36 = .ok (.return_, 1) := by decide +kernel
theorem dX5_init_0 : decode cX5_init 0 = .ok (.aload_n 0, 1) := by decide +kernel
theorem dX5_init_1 : decode cX5_init 1 = .ok (.invokespecial 3, 3) := by decide +kernel
theorem dX5_init_4 : decode cX5_init 4 = .ok (.aload_n 0, 1) := by decide +kernel
theorem dX5_init_5 : decode cX5_init 5 = .ok (.iconst 5, 1) := by decide +kernel
theorem dX5_init_6 : decode cX5_init 6 = .ok (.newarray .int, 2) := by decide +kernel
theorem dX5_init_8 : decode cX5_init 8 = .ok (.putfield 9, 3) := by decide +kernel
theorem dX5_init_11 : decode cX5_init 11 = .ok (.aload_n 0, 1) := by decide +kernel
theorem dX5_init_12 : decode cX5_init 12 = .ok (.iconst 5, 1) := by decide +kernel
theorem dX5_init_13 : decode cX5_init 13 = .ok (.newarray .int, 2) := by decide +kernel
theorem dX5_init_15 : decode cX5_init 15 = .ok (.putfield 15, 3) := by decide +kernel
theorem dX5_init_18 : decode cX5_init 18 = .ok (.aload_n 0, 1) := by decide +kernel
theorem dX5_init_19 : decode cX5_init 19 = .ok (.iconst 5, 1) := by decide +kernel
theorem dX5_init_20 : decode cX5_init 20 = .ok (.newarray .int, 2) := by decide +kernel
theorem dX5_init_22 : decode cX5_init 22 = .ok (.putfield 18, 3) := by decide +kernel
theorem dX5_init_25 : decode cX5_init 25 = .ok (.aload_n 0, 1) := by decide +kernel
theorem dX5_init_26 : decode cX5_init 26 = .ok (.iconst 5, 1) := by decide +kernel
theorem dX5_init_27 : decode cX5_init 27 = .ok (.newarray .int, 2) := by decide +kernel
theorem dX5_init_29 : decode cX5_init 29 = .ok (.putfield 21, 3) := by decide +kernel
theorem dX5_init_32 : decode cX5_init 32 = .ok (.aload_n 0, 1) := by decide +kernel
theorem dX5_init_33 : decode cX5_init 33 = .ok (.iconst 5, 1) := by decide +kernel
theorem dX5_init_34 : decode cX5_init 34 = .ok (.newarray .boolean, 2) := by decide +kernel
theorem dX5_init_36 : decode cX5_init 36 = .ok (.putfield 24, 3) := by decide +kernel
theorem dX5_init_39 : decode cX5_init 39 = .ok (.aload_n 0, 1) := by decide +kernel
theorem dX5_init_40 : decode cX5_init 40 = .ok (.iconst 0, 1) := by decide +kernel
theorem dX5_init_41 : decode cX5_init 41 = .ok (.putfield 28, 3) := by decide +kernel
theorem dX5_init_44 : decode cX5_init 44 = .ok (.return_, 1) := by decide +kernel
theorem dX5_copyFrom_0 : decode cX5_copyFrom 0 = .ok (.iconst 0, 1) := by decide +kernel
theorem dX5_copyFrom_1 : decode cX5_copyFrom 1 = .ok (.istore_n 2, 1) := by decide +kernel
theorem dX5_copyFrom_2 : decode cX5_copyFrom 2 = .ok (.iload_n 2, 1) := by decide +kernel
theorem dX5_copyFrom_3 : decode cX5_copyFrom 3 = .ok (.iconst 5, 1) := by decide +kernel
theorem dX5_copyFrom_4 : decode cX5_copyFrom 4 = .ok (.if_icmp .ge 69, 3) := by decide +kernel
theorem dX5_copyFrom_7 : decode cX5_copyFrom 7 = .ok (.aload_n 0, 1) := by decide +kernel
theorem dX5_copyFrom_8 : decode cX5_copyFrom 8 = .ok (.getfield 9, 3) := by decide +kernel
theorem dX5_copyFrom_11 : decode cX5_copyFrom 11 = .ok (.iload_n 2, 1) := by decide +kernel
theorem dX5_copyFrom_12 : decode cX5_copyFrom 12 = .ok (.aload_n 1, 1) := by decide +kernel
theorem dX5_copyFrom_13 : decode cX5_copyFrom 13 = .ok (.getfield 9, 3) := by decide +kernel
theorem dX5_copyFrom_16 : decode cX5_copyFrom 16 = .ok (.iload_n 2, 1) := by decide +kernel
theorem dX5_copyFrom_17 : decode cX5_copyFrom 17 = .ok (.iaload, 1) := by decide +kernel
theorem dX5_copyFrom_18 : decode cX5_copyFrom 18 = .ok (.iastore, 1) := by decide +kernel
theorem dX5_copyFrom_19 : decode cX5_copyFrom 19 = .ok (.aload_n 0, 1) := by decide +kernel
theorem dX5_copyFrom_20 : decode cX5_copyFrom 20 = .ok (.getfield 15, 3) := by decide +kernel
theorem dX5_copyFrom_23 : decode cX5_copyFrom 23 = .ok (.iload_n 2, 1) := by decide +kernel
theorem dX5_copyFrom_24 : decode cX5_copyFrom 24 = .ok (.aload_n 1, 1) := by decide +kernel
theorem dX5_copyFrom_25 : decode cX5_copyFrom 25 = .ok (.getfield 15, 3) := by decide +kernel
theorem dX5_copyFrom_28 : decode cX5_copyFrom 28 = .ok (.iload_n 2, 1) := by decide +kernel
theorem dX5_copyFrom_29 : decode cX5_copyFrom 29 = .ok (.iaload, 1) := by decide +kernel
theorem dX5_copyFrom_30 : decode cX5_copyFrom 30 = .ok (.iastore, 1) := by decide +kernel
theorem dX5_copyFrom_31 : decode cX5_copyFrom 31 = .ok (.aload_n 0, 1) := by decide +kernel
theorem dX5_copyFrom_32 : decode cX5_copyFrom 32 = .ok (.getfield 18, 3) := by decide +kernel
theorem dX5_copyFrom_35 : decode cX5_copyFrom 35 = .ok (.iload_n 2, 1) := by decide +kernel
theorem dX5_copyFrom_36 : decode cX5_copyFrom 36 = .ok (.aload_n 1, 1) := by decide +kernel
theorem dX5_copyFrom_37 : decode cX5_copyFrom 37 = .ok (.getfield 18, 3) := by decide +kernel
theorem dX5_copyFrom_40 : decode cX5_copyFrom 40 = .ok (.iload_n 2, 1) := by decide +kernel
theorem dX5_copyFrom_41 : decode cX5_copyFrom 41 = .ok (.iaload, 1) := by decide +kernel
theorem dX5_copyFrom_42 : decode cX5_copyFrom 42 = .ok (.iastore, 1) := by decide +kernel
theorem dX5_copyFrom_43 : decode cX5_copyFrom 43 = .ok (.aload_n 0, 1) := by decide +kernel
theorem dX5_copyFrom_44 : decode cX5_copyFrom 44 = .ok (.getfield 21, 3) := by decide +kernel
theorem dX5_copyFrom_47 : decode cX5_copyFrom 47 = .ok (.iload_n 2, 1) := by decide +kernel
theorem dX5_copyFrom_48 : decode cX5_copyFrom 48 = .ok (.aload_n 1, 1) := by decide +kernel
theorem dX5_copyFrom_49 : decode cX5_copyFrom 49 = .ok (.getfield 21, 3) := by decide +kernel
theorem dX5_copyFrom_52 : decode cX5_copyFrom 52 = .ok (.iload_n 2, 1) := by decide +kernel
theorem dX5_copyFrom_53 : decode cX5_copyFrom 53 = .ok (.iaload, 1) := by decide +kernel
theorem dX5_copyFrom_54 : decode cX5_copyFrom 54 = .ok (.iastore, 1) := by decide +kernel
theorem dX5_copyFrom_55 : decode cX5_copyFrom 55 = .ok (.aload_n 0, 1) := by decide +kernel
theorem dX5_copyFrom_56 : decode cX5_copyFrom 56 = .ok (.getfield 24, 3) := by decide +kernel
theorem dX5_copyFrom_59 : decode cX5_copyFrom 59 = .ok (.iload_n 2, 1) := by decide +kernel
theorem dX5_copyFrom_60 : decode cX5_copyFrom 60 = .ok (.aload_n 1, 1) := by decide +kernel
theorem dX5_copyFrom_61 : decode cX5_copyFrom 61 = .ok (.getfield 24, 3) := by decide +kernel
theorem dX5_copyFrom_64 : decode cX5_copyFrom 64 = .ok (.iload_n 2, 1) := by decide +kernel
theorem dX5_copyFrom_65 : decode cX5_copyFrom 65 = .ok (.baload, 1) := by decide +kernel
theorem dX5_copyFrom_66 : decode cX5_copyFrom 66 = .ok (.bastore, 1) := by decide +kernel
theorem dX5_copyFrom_67 : decode cX5_copyFrom 67 = .ok (.iinc 2 1, 3) := by decide +kernel
theorem dX5_copyFrom_70 : decode cX5_copyFrom 70 = .ok (.goto (-68), 3) := by decide +kernel
theorem dX5_copyFrom_73 : decode cX5_copyFrom 73 = .ok (.aload_n 0, 1) := by decide +kernel
theorem dX5_copyFrom_74 : decode cX5_copyFrom 74 = .ok (.aload_n 1, 1) := by decide +kernel
theorem dX5_copyFrom_75 : decode cX5_copyFrom 75 = .ok (.getfield 28, 3) := by decide +kernel
theorem dX5_copyFrom_78 : decode cX5_copyFrom 78 = .ok (.putfield 28, 3) := by decide +kernel
theorem dX5_copyFrom_81 : decode cX5_copyFrom 81 = .ok (.return_, 1) := by decide +kernel
theorem dX5_has_0 : decode cX5_has 0 = .ok (.iload_n 1, 1) := by decide +kernel
theorem dX5_has_1 : decode cX5_has 1 = .ok (.ifCond .lt 15, 3) := by decide +kernel
theorem dX5_has_4 : decode cX5_has 4 = .ok (.iload_n 1, 1) := by decide +kernel
theorem dX5_has_5 : decode cX5_has 5 = .ok (.aload_n 0, 1) := by decide +kernel
theorem dX5_has_6 : decode cX5_has 6 = .ok (.getfield 28, 3) := by decide +kernel
theorem dX5_has_9 : decode cX5_has 9 = .ok (.if_icmp .ge 7, 3) := by decide +kernel
theorem dX5_has_12 : decode cX5_has 12 = .ok (.iconst 1, 1) := by decide +kernel
theorem dX5_has_13 : decode cX5_has 13 = .ok (.goto 4, 3) := by decide +kernel
theorem dX5_has_16 : decode cX5_has 16 = .ok (.iconst 0, 1) := by decide +kernel
theorem dX5_has_17 : decode cX5_has 17 = .ok (.ireturn, 1) := by decide +kernel
theorem dX5_numberResting_0 : decode cX5_numberResting 0 = .ok (.iconst 0, 1) := by decide +kernel
theorem dX5_numberResting_1 : decode cX5_numberResting 1 = .ok (.istore_n 1, 1) := by decide +kernel
theorem dX5_numberResting_2 : decode cX5_numberResting 2 = .ok (.iconst 0, 1) := by decide +kernel
theorem dX5_numberResting_3 : decode cX5_numberResting 3 = .ok (.istore_n 2, 1) := by decide +kernel
theorem dX5_numberResting_4 : decode cX5_numberResting 4 = .ok (.iload_n 2, 1) := by decide +kernel
theorem dX5_numberResting_5 : decode cX5_numberResting 5 = .ok (.aload_n 0, 1) := by decide +kernel
theorem dX5_numberResting_6 : decode cX5_numberResting 6 = .ok (.getfield 28, 3) := by decide +kernel
theorem dX5_numberResting_9 : decode cX5_numberResting 9 = .ok (.if_icmp .ge 21, 3) := by decide +kernel
theorem dX5_numberResting_12 : decode cX5_numberResting 12 = .ok (.aload_n 0, 1) := by decide +kernel
theorem dX5_numberResting_13 : decode cX5_numberResting 13 = .ok (.getfield 24, 3) := by decide +kernel
theorem dX5_numberResting_16 : decode cX5_numberResting 16 = .ok (.iload_n 2, 1) := by decide +kernel
theorem dX5_numberResting_17 : decode cX5_numberResting 17 = .ok (.baload, 1) := by decide +kernel
theorem dX5_numberResting_18 : decode cX5_numberResting 18 = .ok (.ifCond .eq 6, 3) := by decide +kernel
theorem dX5_numberResting_21 : decode cX5_numberResting 21 = .ok (.iinc 1 1, 3) := by decide +kernel
theorem dX5_numberResting_24 : decode cX5_numberResting 24 = .ok (.iinc 2 1, 3) := by decide +kernel
theorem dX5_numberResting_27 : decode cX5_numberResting 27 = .ok (.goto (-23), 3) := by decide +kernel
theorem dX5_numberResting_30 : decode cX5_numberResting 30 = .ok (.iload_n 1, 1) := by decide +kernel
theorem dX5_numberResting_31 : decode cX5_numberResting 31 = .ok (.ireturn, 1) := by decide +kernel
theorem dX5_crumbsInPurses_0 : decode cX5_crumbsInPurses 0 = .ok (.iconst 0, 1) := by decide +kernel
theorem dX5_crumbsInPurses_1 : decode cX5_crumbsInPurses 1 = .ok (.istore_n 1, 1) := by decide +kernel
theorem dX5_crumbsInPurses_2 : decode cX5_crumbsInPurses 2 = .ok (.iconst 0, 1) := by decide +kernel
theorem dX5_crumbsInPurses_3 : decode cX5_crumbsInPurses 3 = .ok (.istore_n 2, 1) := by decide +kernel
theorem dX5_crumbsInPurses_4 : decode cX5_crumbsInPurses 4 = .ok (.iload_n 2, 1) := by decide +kernel
theorem dX5_crumbsInPurses_5 : decode cX5_crumbsInPurses 5 = .ok (.aload_n 0, 1) := by decide +kernel
theorem dX5_crumbsInPurses_6 : decode cX5_crumbsInPurses 6 = .ok (.getfield 28, 3) := by decide +kernel
theorem dX5_crumbsInPurses_9 : decode cX5_crumbsInPurses 9 = .ok (.if_icmp .ge 18, 3) := by decide +kernel
theorem dX5_crumbsInPurses_12 : decode cX5_crumbsInPurses 12 = .ok (.iload_n 1, 1) := by decide +kernel
theorem dX5_crumbsInPurses_13 : decode cX5_crumbsInPurses 13 = .ok (.aload_n 0, 1) := by decide +kernel
theorem dX5_crumbsInPurses_14 : decode cX5_crumbsInPurses 14 = .ok (.getfield 15, 3) := by decide +kernel
theorem dX5_crumbsInPurses_17 : decode cX5_crumbsInPurses 17 = .ok (.iload_n 2, 1) := by decide +kernel
theorem dX5_crumbsInPurses_18 : decode cX5_crumbsInPurses 18 = .ok (.iaload, 1) := by decide +kernel
theorem dX5_crumbsInPurses_19 : decode cX5_crumbsInPurses 19 = .ok (.iadd, 1) := by decide +kernel
theorem dX5_crumbsInPurses_20 : decode cX5_crumbsInPurses 20 = .ok (.istore_n 1, 1) := by decide +kernel
theorem dX5_crumbsInPurses_21 : decode cX5_crumbsInPurses 21 = .ok (.iinc 2 1, 3) := by decide +kernel
theorem dX5_crumbsInPurses_24 : decode cX5_crumbsInPurses 24 = .ok (.goto (-20), 3) := by decide +kernel
theorem dX5_crumbsInPurses_27 : decode cX5_crumbsInPurses 27 = .ok (.iload_n 1, 1) := by decide +kernel
theorem dX5_crumbsInPurses_28 : decode cX5_crumbsInPurses 28 = .ok (.ireturn, 1) := by decide +kernel
theorem dX5_anyCrumbsNegative_0 : decode cX5_anyCrumbsNegative 0 = .ok (.iconst 0, 1) := by decide +kernel
theorem dX5_anyCrumbsNegative_1 : decode cX5_anyCrumbsNegative 1 = .ok (.istore_n 1, 1) := by decide +kernel
theorem dX5_anyCrumbsNegative_2 : decode cX5_anyCrumbsNegative 2 = .ok (.iload_n 1, 1) := by decide +kernel
theorem dX5_anyCrumbsNegative_3 : decode cX5_anyCrumbsNegative 3 = .ok (.aload_n 0, 1) := by decide +kernel
theorem dX5_anyCrumbsNegative_4 : decode cX5_anyCrumbsNegative 4 = .ok (.getfield 28, 3) := by decide +kernel
theorem dX5_anyCrumbsNegative_7 : decode cX5_anyCrumbsNegative 7 = .ok (.if_icmp .ge 29, 3) := by decide +kernel
theorem dX5_anyCrumbsNegative_10 : decode cX5_anyCrumbsNegative 10 = .ok (.aload_n 0, 1) := by decide +kernel
theorem dX5_anyCrumbsNegative_11 : decode cX5_anyCrumbsNegative 11 = .ok (.getfield 15, 3) := by decide +kernel
theorem dX5_anyCrumbsNegative_14 : decode cX5_anyCrumbsNegative 14 = .ok (.iload_n 1, 1) := by decide +kernel
theorem dX5_anyCrumbsNegative_15 : decode cX5_anyCrumbsNegative 15 = .ok (.iaload, 1) := by decide +kernel
theorem dX5_anyCrumbsNegative_16 : decode cX5_anyCrumbsNegative 16 = .ok (.ifCond .lt 12, 3) := by decide +kernel
theorem dX5_anyCrumbsNegative_19 : decode cX5_anyCrumbsNegative 19 = .ok (.aload_n 0, 1) := by decide +kernel
theorem dX5_anyCrumbsNegative_20 : decode cX5_anyCrumbsNegative 20 = .ok (.getfield 18, 3) := by decide +kernel
theorem dX5_anyCrumbsNegative_23 : decode cX5_anyCrumbsNegative 23 = .ok (.iload_n 1, 1) := by decide +kernel
theorem dX5_anyCrumbsNegative_24 : decode cX5_anyCrumbsNegative 24 = .ok (.iaload, 1) := by decide +kernel
theorem dX5_anyCrumbsNegative_25 : decode cX5_anyCrumbsNegative 25 = .ok (.ifCond .ge 5, 3) := by decide +kernel
theorem dX5_anyCrumbsNegative_28 : decode cX5_anyCrumbsNegative 28 = .ok (.iconst 1, 1) := by decide +kernel
theorem dX5_anyCrumbsNegative_29 : decode cX5_anyCrumbsNegative 29 = .ok (.ireturn, 1) := by decide +kernel
theorem dX5_anyCrumbsNegative_30 : decode cX5_anyCrumbsNegative 30 = .ok (.iinc 1 1, 3) := by decide +kernel
theorem dX5_anyCrumbsNegative_33 : decode cX5_anyCrumbsNegative 33 = .ok (.goto (-31), 3) := by decide +kernel
theorem dX5_anyCrumbsNegative_36 : decode cX5_anyCrumbsNegative 36 = .ok (.iconst 0, 1) := by decide +kernel
theorem dX5_anyCrumbsNegative_37 : decode cX5_anyCrumbsNegative 37 = .ok (.ireturn, 1) := by decide +kernel
theorem dX5_rankByWealth_0 : decode cX5_rankByWealth 0 = .ok (.iconst 0, 1) := by decide +kernel
theorem dX5_rankByWealth_1 : decode cX5_rankByWealth 1 = .ok (.istore_n 2, 1) := by decide +kernel
theorem dX5_rankByWealth_2 : decode cX5_rankByWealth 2 = .ok (.iconst 0, 1) := by decide +kernel
theorem dX5_rankByWealth_3 : decode cX5_rankByWealth 3 = .ok (.istore_n 3, 1) := by decide +kernel
theorem dX5_rankByWealth_4 : decode cX5_rankByWealth 4 = .ok (.iload_n 3, 1) := by decide +kernel
theorem dX5_rankByWealth_5 : decode cX5_rankByWealth 5 = .ok (.aload_n 0, 1) := by decide +kernel
theorem dX5_rankByWealth_6 : decode cX5_rankByWealth 6 = .ok (.getfield 28, 3) := by decide +kernel
theorem dX5_rankByWealth_9 : decode cX5_rankByWealth 9 = .ok (.if_icmp .ge 21, 3) := by decide +kernel
theorem dX5_rankByWealth_12 : decode cX5_rankByWealth 12 = .ok (.aload_n 0, 1) := by decide +kernel
theorem dX5_rankByWealth_13 : decode cX5_rankByWealth 13 = .ok (.iload_n 3, 1) := by decide +kernel
theorem dX5_rankByWealth_14 : decode cX5_rankByWealth 14 = .ok (.iload_n 1, 1) := by decide +kernel
theorem dX5_rankByWealth_15 : decode cX5_rankByWealth 15 = .ok (.invokevirtual 32, 3) := by decide +kernel
theorem dX5_rankByWealth_18 : decode cX5_rankByWealth 18 = .ok (.ifCond .eq 6, 3) := by decide +kernel
theorem dX5_rankByWealth_21 : decode cX5_rankByWealth 21 = .ok (.iinc 2 1, 3) := by decide +kernel
theorem dX5_rankByWealth_24 : decode cX5_rankByWealth 24 = .ok (.iinc 3 1, 3) := by decide +kernel
theorem dX5_rankByWealth_27 : decode cX5_rankByWealth 27 = .ok (.goto (-23), 3) := by decide +kernel
theorem dX5_rankByWealth_30 : decode cX5_rankByWealth 30 = .ok (.iload_n 2, 1) := by decide +kernel
theorem dX5_rankByWealth_31 : decode cX5_rankByWealth 31 = .ok (.ireturn, 1) := by decide +kernel
theorem dX5_isWealthier_0 : decode cX5_isWealthier 0 = .ok (.aload_n 0, 1) := by decide +kernel
theorem dX5_isWealthier_1 : decode cX5_isWealthier 1 = .ok (.getfield 15, 3) := by decide +kernel
theorem dX5_isWealthier_4 : decode cX5_isWealthier 4 = .ok (.iload_n 1, 1) := by decide +kernel
theorem dX5_isWealthier_5 : decode cX5_isWealthier 5 = .ok (.iaload, 1) := by decide +kernel
theorem dX5_isWealthier_6 : decode cX5_isWealthier 6 = .ok (.aload_n 0, 1) := by decide +kernel
theorem dX5_isWealthier_7 : decode cX5_isWealthier 7 = .ok (.getfield 18, 3) := by decide +kernel
theorem dX5_isWealthier_10 : decode cX5_isWealthier 10 = .ok (.iload_n 1, 1) := by decide +kernel
theorem dX5_isWealthier_11 : decode cX5_isWealthier 11 = .ok (.iaload, 1) := by decide +kernel
theorem dX5_isWealthier_12 : decode cX5_isWealthier 12 = .ok (.isub, 1) := by decide +kernel
theorem dX5_isWealthier_13 : decode cX5_isWealthier 13 = .ok (.istore_n 3, 1) := by decide +kernel
theorem dX5_isWealthier_14 : decode cX5_isWealthier 14 = .ok (.aload_n 0, 1) := by decide +kernel
theorem dX5_isWealthier_15 : decode cX5_isWealthier 15 = .ok (.getfield 15, 3) := by decide +kernel
theorem dX5_isWealthier_18 : decode cX5_isWealthier 18 = .ok (.iload_n 2, 1) := by decide +kernel
theorem dX5_isWealthier_19 : decode cX5_isWealthier 19 = .ok (.iaload, 1) := by decide +kernel
theorem dX5_isWealthier_20 : decode cX5_isWealthier 20 = .ok (.aload_n 0, 1) := by decide +kernel
theorem dX5_isWealthier_21 : decode cX5_isWealthier 21 = .ok (.getfield 18, 3) := by decide +kernel
theorem dX5_isWealthier_24 : decode cX5_isWealthier 24 = .ok (.iload_n 2, 1) := by decide +kernel
theorem dX5_isWealthier_25 : decode cX5_isWealthier 25 = .ok (.iaload, 1) := by decide +kernel
theorem dX5_isWealthier_26 : decode cX5_isWealthier 26 = .ok (.isub, 1) := by decide +kernel
theorem dX5_isWealthier_27 : decode cX5_isWealthier 27 = .ok (.istore 4, 2) := by decide +kernel
theorem dX5_isWealthier_29 : decode cX5_isWealthier 29 = .ok (.iload_n 3, 1) := by decide +kernel
theorem dX5_isWealthier_30 : decode cX5_isWealthier 30 = .ok (.iload 4, 2) := by decide +kernel
theorem dX5_isWealthier_32 : decode cX5_isWealthier 32 = .ok (.if_icmp .eq 15, 3) := by decide +kernel
theorem dX5_isWealthier_35 : decode cX5_isWealthier 35 = .ok (.iload_n 3, 1) := by decide +kernel
theorem dX5_isWealthier_36 : decode cX5_isWealthier 36 = .ok (.iload 4, 2) := by decide +kernel
theorem dX5_isWealthier_38 : decode cX5_isWealthier 38 = .ok (.if_icmp .le 7, 3) := by decide +kernel
theorem dX5_isWealthier_41 : decode cX5_isWealthier 41 = .ok (.iconst 1, 1) := by decide +kernel
theorem dX5_isWealthier_42 : decode cX5_isWealthier 42 = .ok (.goto 4, 3) := by decide +kernel
theorem dX5_isWealthier_45 : decode cX5_isWealthier 45 = .ok (.iconst 0, 1) := by decide +kernel
theorem dX5_isWealthier_46 : decode cX5_isWealthier 46 = .ok (.ireturn, 1) := by decide +kernel
theorem dX5_isWealthier_47 : decode cX5_isWealthier 47 = .ok (.aload_n 0, 1) := by decide +kernel
theorem dX5_isWealthier_48 : decode cX5_isWealthier 48 = .ok (.getfield 9, 3) := by decide +kernel
theorem dX5_isWealthier_51 : decode cX5_isWealthier 51 = .ok (.iload_n 1, 1) := by decide +kernel
theorem dX5_isWealthier_52 : decode cX5_isWealthier 52 = .ok (.iaload, 1) := by decide +kernel
theorem dX5_isWealthier_53 : decode cX5_isWealthier 53 = .ok (.aload_n 0, 1) := by decide +kernel
theorem dX5_isWealthier_54 : decode cX5_isWealthier 54 = .ok (.getfield 9, 3) := by decide +kernel
theorem dX5_isWealthier_57 : decode cX5_isWealthier 57 = .ok (.iload_n 2, 1) := by decide +kernel
theorem dX5_isWealthier_58 : decode cX5_isWealthier 58 = .ok (.iaload, 1) := by decide +kernel
theorem dX5_isWealthier_59 : decode cX5_isWealthier 59 = .ok (.if_icmp .eq 24, 3) := by decide +kernel
theorem dX5_isWealthier_62 : decode cX5_isWealthier 62 = .ok (.aload_n 0, 1) := by decide +kernel
theorem dX5_isWealthier_63 : decode cX5_isWealthier 63 = .ok (.getfield 9, 3) := by decide +kernel
theorem dX5_isWealthier_66 : decode cX5_isWealthier 66 = .ok (.iload_n 1, 1) := by decide +kernel
theorem dX5_isWealthier_67 : decode cX5_isWealthier 67 = .ok (.iaload, 1) := by decide +kernel
theorem dX5_isWealthier_68 : decode cX5_isWealthier 68 = .ok (.aload_n 0, 1) := by decide +kernel
theorem dX5_isWealthier_69 : decode cX5_isWealthier 69 = .ok (.getfield 9, 3) := by decide +kernel
theorem dX5_isWealthier_72 : decode cX5_isWealthier 72 = .ok (.iload_n 2, 1) := by decide +kernel
theorem dX5_isWealthier_73 : decode cX5_isWealthier 73 = .ok (.iaload, 1) := by decide +kernel
theorem dX5_isWealthier_74 : decode cX5_isWealthier 74 = .ok (.if_icmp .le 7, 3) := by decide +kernel
theorem dX5_isWealthier_77 : decode cX5_isWealthier 77 = .ok (.iconst 1, 1) := by decide +kernel
theorem dX5_isWealthier_78 : decode cX5_isWealthier 78 = .ok (.goto 4, 3) := by decide +kernel
theorem dX5_isWealthier_81 : decode cX5_isWealthier 81 = .ok (.iconst 0, 1) := by decide +kernel
theorem dX5_isWealthier_82 : decode cX5_isWealthier 82 = .ok (.ireturn, 1) := by decide +kernel
theorem dX5_isWealthier_83 : decode cX5_isWealthier 83 = .ok (.iload_n 1, 1) := by decide +kernel
theorem dX5_isWealthier_84 : decode cX5_isWealthier 84 = .ok (.iload_n 2, 1) := by decide +kernel
theorem dX5_isWealthier_85 : decode cX5_isWealthier 85 = .ok (.if_icmp .ge 7, 3) := by decide +kernel
theorem dX5_isWealthier_88 : decode cX5_isWealthier 88 = .ok (.iconst 1, 1) := by decide +kernel
theorem dX5_isWealthier_89 : decode cX5_isWealthier 89 = .ok (.goto 4, 3) := by decide +kernel
theorem dX5_isWealthier_92 : decode cX5_isWealthier 92 = .ok (.iconst 0, 1) := by decide +kernel
theorem dX5_isWealthier_93 : decode cX5_isWealthier 93 = .ok (.ireturn, 1) := by decide +kernel
theorem dX6_init_0 : decode cX6_init 0 = .ok (.aload_n 0, 1) := by decide +kernel
theorem dX6_init_1 : decode cX6_init 1 = .ok (.invokespecial 3, 3) := by decide +kernel
theorem dX6_init_4 : decode cX6_init 4 = .ok (.aload_n 0, 1) := by decide +kernel
theorem dX6_init_5 : decode cX6_init 5 = .ok (.bipush 9, 2) := by decide +kernel
theorem dX6_init_7 : decode cX6_init 7 = .ok (.anewarray 9, 3) := by decide +kernel
theorem dX6_init_10 : decode cX6_init 10 = .ok (.putfield 11, 3) := by decide +kernel
theorem dX6_init_13 : decode cX6_init 13 = .ok (.aload_n 0, 1) := by decide +kernel
theorem dX6_init_14 : decode cX6_init 14 = .ok (.iconst 0, 1) := by decide +kernel
theorem dX6_init_15 : decode cX6_init 15 = .ok (.putfield 17, 3) := by decide +kernel
theorem dX6_init_18 : decode cX6_init 18 = .ok (.iconst 0, 1) := by decide +kernel
theorem dX6_init_19 : decode cX6_init 19 = .ok (.istore_n 1, 1) := by decide +kernel
theorem dX6_init_20 : decode cX6_init 20 = .ok (.iload_n 1, 1) := by decide +kernel
theorem dX6_init_21 : decode cX6_init 21 = .ok (.aload_n 0, 1) := by decide +kernel
theorem dX6_init_22 : decode cX6_init 22 = .ok (.getfield 11, 3) := by decide +kernel
theorem dX6_init_25 : decode cX6_init 25 = .ok (.arraylength, 1) := by decide +kernel
theorem dX6_init_26 : decode cX6_init 26 = .ok (.if_icmp .ge 22, 3) := by decide +kernel
theorem dX6_init_29 : decode cX6_init 29 = .ok (.aload_n 0, 1) := by decide +kernel
theorem dX6_init_30 : decode cX6_init 30 = .ok (.getfield 11, 3) := by decide +kernel
theorem dX6_init_33 : decode cX6_init 33 = .ok (.iload_n 1, 1) := by decide +kernel
theorem dX6_init_34 : decode cX6_init 34 = .ok (.new 9, 3) := by decide +kernel
theorem dX6_init_37 : decode cX6_init 37 = .ok (.dup, 1) := by decide +kernel
theorem dX6_init_38 : decode cX6_init 38 = .ok (.invokespecial 21, 3) := by decide +kernel
theorem dX6_init_41 : decode cX6_init 41 = .ok (.aastore, 1) := by decide +kernel
theorem dX6_init_42 : decode cX6_init 42 = .ok (.iinc 1 1, 3) := by decide +kernel
theorem dX6_init_45 : decode cX6_init 45 = .ok (.goto (-25), 3) := by decide +kernel
theorem dX6_init_48 : decode cX6_init 48 = .ok (.return_, 1) := by decide +kernel
theorem dX6_prepare_0 : decode cX6_prepare 0 = .ok (.aload_n 0, 1) := by decide +kernel
theorem dX6_prepare_1 : decode cX6_prepare 1 = .ok (.getfield 11, 3) := by decide +kernel
theorem dX6_prepare_4 : decode cX6_prepare 4 = .ok (.aload_n 0, 1) := by decide +kernel
theorem dX6_prepare_5 : decode cX6_prepare 5 = .ok (.getfield 17, 3) := by decide +kernel
theorem dX6_prepare_8 : decode cX6_prepare 8 = .ok (.aaload, 1) := by decide +kernel
theorem dX6_prepare_9 : decode cX6_prepare 9 = .ok (.aload_n 1, 1) := by decide +kernel
theorem dX6_prepare_10 : decode cX6_prepare 10 = .ok (.invokevirtual 22, 3) := by decide +kernel
theorem dX6_prepare_13 : decode cX6_prepare 13 = .ok (.return_, 1) := by decide +kernel
theorem dX6_keep_0 : decode cX6_keep 0 = .ok (.aload_n 0, 1) := by decide +kernel
theorem dX6_keep_1 : decode cX6_keep 1 = .ok (.getfield 17, 3) := by decide +kernel
theorem dX6_keep_4 : decode cX6_keep 4 = .ok (.bipush 8, 2) := by decide +kernel
theorem dX6_keep_6 : decode cX6_keep 6 = .ok (.if_icmp .ge 14, 3) := by decide +kernel
theorem dX6_keep_9 : decode cX6_keep 9 = .ok (.aload_n 0, 1) := by decide +kernel
theorem dX6_keep_10 : decode cX6_keep 10 = .ok (.dup, 1) := by decide +kernel
theorem dX6_keep_11 : decode cX6_keep 11 = .ok (.getfield 17, 3) := by decide +kernel
theorem dX6_keep_14 : decode cX6_keep 14 = .ok (.iconst 1, 1) := by decide +kernel
theorem dX6_keep_15 : decode cX6_keep 15 = .ok (.iadd, 1) := by decide +kernel
theorem dX6_keep_16 : decode cX6_keep 16 = .ok (.putfield 17, 3) := by decide +kernel
theorem dX6_keep_19 : decode cX6_keep 19 = .ok (.return_, 1) := by decide +kernel
theorem dX6_keep_20 : decode cX6_keep 20 = .ok (.aload_n 0, 1) := by decide +kernel
theorem dX6_keep_21 : decode cX6_keep 21 = .ok (.getfield 11, 3) := by decide +kernel
theorem dX6_keep_24 : decode cX6_keep 24 = .ok (.iconst 0, 1) := by decide +kernel
theorem dX6_keep_25 : decode cX6_keep 25 = .ok (.aaload, 1) := by decide +kernel
theorem dX6_keep_26 : decode cX6_keep 26 = .ok (.astore_n 1, 1) := by decide +kernel
theorem dX6_keep_27 : decode cX6_keep 27 = .ok (.iconst 0, 1) := by decide +kernel
theorem dX6_keep_28 : decode cX6_keep 28 = .ok (.istore_n 2, 1) := by decide +kernel
theorem dX6_keep_29 : decode cX6_keep 29 = .ok (.iload_n 2, 1) := by decide +kernel
theorem dX6_keep_30 : decode cX6_keep 30 = .ok (.bipush 8, 2) := by decide +kernel
theorem dX6_keep_32 : decode cX6_keep 32 = .ok (.if_icmp .ge 23, 3) := by decide +kernel
theorem dX6_keep_35 : decode cX6_keep 35 = .ok (.aload_n 0, 1) := by decide +kernel
theorem dX6_keep_36 : decode cX6_keep 36 = .ok (.getfield 11, 3) := by decide +kernel
theorem dX6_keep_39 : decode cX6_keep 39 = .ok (.iload_n 2, 1) := by decide +kernel
theorem dX6_keep_40 : decode cX6_keep 40 = .ok (.aload_n 0, 1) := by decide +kernel
theorem dX6_keep_41 : decode cX6_keep 41 = .ok (.getfield 11, 3) := by decide +kernel
theorem dX6_keep_44 : decode cX6_keep 44 = .ok (.iload_n 2, 1) := by decide +kernel
theorem dX6_keep_45 : decode cX6_keep 45 = .ok (.iconst 1, 1) := by decide +kernel
theorem dX6_keep_46 : decode cX6_keep 46 = .ok (.iadd, 1) := by decide +kernel
theorem dX6_keep_47 : decode cX6_keep 47 = .ok (.aaload, 1) := by decide +kernel
theorem dX6_keep_48 : decode cX6_keep 48 = .ok (.aastore, 1) := by decide +kernel
theorem dX6_keep_49 : decode cX6_keep 49 = .ok (.iinc 2 1, 3) := by decide +kernel
theorem dX6_keep_52 : decode cX6_keep 52 = .ok (.goto (-23), 3) := by decide +kernel
theorem dX6_keep_55 : decode cX6_keep 55 = .ok (.aload_n 0, 1) := by decide +kernel
theorem dX6_keep_56 : decode cX6_keep 56 = .ok (.getfield 11, 3) := by decide +kernel
theorem dX6_keep_59 : decode cX6_keep 59 = .ok (.bipush 8, 2) := by decide +kernel
theorem dX6_keep_61 : decode cX6_keep 61 = .ok (.aload_n 1, 1) := by decide +kernel
theorem dX6_keep_62 : decode cX6_keep 62 = .ok (.aastore, 1) := by decide +kernel
theorem dX6_keep_63 : decode cX6_keep 63 = .ok (.return_, 1) := by decide +kernel
theorem dX6_takeBack_0 : decode cX6_takeBack 0 = .ok (.aload_n 1, 1) := by decide +kernel
theorem dX6_takeBack_1 : decode cX6_takeBack 1 = .ok (.aload_n 0, 1) := by decide +kernel
theorem dX6_takeBack_2 : decode cX6_takeBack 2 = .ok (.getfield 11, 3) := by decide +kernel
theorem dX6_takeBack_5 : decode cX6_takeBack 5 = .ok (.aload_n 0, 1) := by decide +kernel
theorem dX6_takeBack_6 : decode cX6_takeBack 6 = .ok (.getfield 17, 3) := by decide +kernel
theorem dX6_takeBack_9 : decode cX6_takeBack 9 = .ok (.aaload, 1) := by decide +kernel
theorem dX6_takeBack_10 : decode cX6_takeBack 10 = .ok (.invokevirtual 22, 3) := by decide +kernel
theorem dX6_takeBack_13 : decode cX6_takeBack 13 = .ok (.return_, 1) := by decide +kernel
theorem dX6_stepBack_0 : decode cX6_stepBack 0 = .ok (.aload_n 0, 1) := by decide +kernel
theorem dX6_stepBack_1 : decode cX6_stepBack 1 = .ok (.dup, 1) := by decide +kernel
theorem dX6_stepBack_2 : decode cX6_stepBack 2 = .ok (.getfield 17, 3) := by decide +kernel
theorem dX6_stepBack_5 : decode cX6_stepBack 5 = .ok (.iconst 1, 1) := by decide +kernel
theorem dX6_stepBack_6 : decode cX6_stepBack 6 = .ok (.isub, 1) := by decide +kernel
theorem dX6_stepBack_7 : decode cX6_stepBack 7 = .ok (.putfield 17, 3) := by decide +kernel
theorem dX6_stepBack_10 : decode cX6_stepBack 10 = .ok (.aload_n 1, 1) := by decide +kernel
theorem dX6_stepBack_11 : decode cX6_stepBack 11 = .ok (.aload_n 0, 1) := by decide +kernel
theorem dX6_stepBack_12 : decode cX6_stepBack 12 = .ok (.getfield 11, 3) := by decide +kernel
theorem dX6_stepBack_15 : decode cX6_stepBack 15 = .ok (.aload_n 0, 1) := by decide +kernel
theorem dX6_stepBack_16 : decode cX6_stepBack 16 = .ok (.getfield 17, 3) := by decide +kernel
theorem dX6_stepBack_19 : decode cX6_stepBack 19 = .ok (.aaload, 1) := by decide +kernel
theorem dX6_stepBack_20 : decode cX6_stepBack 20 = .ok (.invokevirtual 22, 3) := by decide +kernel
theorem dX6_stepBack_23 : decode cX6_stepBack 23 = .ok (.return_, 1) := by decide +kernel
theorem dX7_init_0 : decode cX7_init 0 = .ok (.aload_n 0, 1) := by decide +kernel
theorem dX7_init_1 : decode cX7_init 1 = .ok (.invokespecial 3, 3) := by decide +kernel
theorem dX7_init_4 : decode cX7_init 4 = .ok (.aload_n 0, 1) := by decide +kernel
theorem dX7_init_5 : decode cX7_init 5 = .ok (.bipush 6, 2) := by decide +kernel
theorem dX7_init_7 : decode cX7_init 7 = .ok (.newarray .int, 2) := by decide +kernel
theorem dX7_init_9 : decode cX7_init 9 = .ok (.putfield 9, 3) := by decide +kernel
theorem dX7_init_12 : decode cX7_init 12 = .ok (.aload_n 0, 1) := by decide +kernel
theorem dX7_init_13 : decode cX7_init 13 = .ok (.new 15, 3) := by decide +kernel
theorem dX7_init_16 : decode cX7_init 16 = .ok (.dup, 1) := by decide +kernel
theorem dX7_init_17 : decode cX7_init 17 = .ok (.invokespecial 17, 3) := by decide +kernel
theorem dX7_init_20 : decode cX7_init 20 = .ok (.putfield 18, 3) := by decide +kernel
theorem dX7_init_23 : decode cX7_init 23 = .ok (.aload_n 0, 1) := by decide +kernel
theorem dX7_init_24 : decode cX7_init 24 = .ok (.new 22, 3) := by decide +kernel
theorem dX7_init_27 : decode cX7_init 27 = .ok (.dup, 1) := by decide +kernel
theorem dX7_init_28 : decode cX7_init 28 = .ok (.invokespecial 24, 3) := by decide +kernel
theorem dX7_init_31 : decode cX7_init 31 = .ok (.putfield 25, 3) := by decide +kernel
theorem dX7_init_34 : decode cX7_init 34 = .ok (.aload_n 0, 1) := by decide +kernel
theorem dX7_init_35 : decode cX7_init 35 = .ok (.new 29, 3) := by decide +kernel
theorem dX7_init_38 : decode cX7_init 38 = .ok (.dup, 1) := by decide +kernel
theorem dX7_init_39 : decode cX7_init 39 = .ok (.invokespecial 31, 3) := by decide +kernel
theorem dX7_init_42 : decode cX7_init 42 = .ok (.putfield 32, 3) := by decide +kernel
theorem dX7_init_45 : decode cX7_init 45 = .ok (.aload_n 0, 1) := by decide +kernel
theorem dX7_init_46 : decode cX7_init 46 = .ok (.iconst 0, 1) := by decide +kernel
theorem dX7_init_47 : decode cX7_init 47 = .ok (.putfield 36, 3) := by decide +kernel
theorem dX7_init_50 : decode cX7_init 50 = .ok (.aload_n 0, 1) := by decide +kernel
theorem dX7_init_51 : decode cX7_init 51 = .ok (.bipush 100, 2) := by decide +kernel
theorem dX7_init_53 : decode cX7_init 53 = .ok (.putfield 40, 3) := by decide +kernel
theorem dX7_init_56 : decode cX7_init 56 = .ok (.aload_n 0, 1) := by decide +kernel
theorem dX7_init_57 : decode cX7_init 57 = .ok (.iconst 0, 1) := by decide +kernel
theorem dX7_init_58 : decode cX7_init 58 = .ok (.putfield 43, 3) := by decide +kernel
theorem dX7_init_61 : decode cX7_init 61 = .ok (.aload_n 0, 1) := by decide +kernel
theorem dX7_init_62 : decode cX7_init 62 = .ok (.iconst 0, 1) := by decide +kernel
theorem dX7_init_63 : decode cX7_init 63 = .ok (.putfield 46, 3) := by decide +kernel
theorem dX7_init_66 : decode cX7_init 66 = .ok (.aload_n 0, 1) := by decide +kernel
theorem dX7_init_67 : decode cX7_init 67 = .ok (.iconst 0, 1) := by decide +kernel
theorem dX7_init_68 : decode cX7_init 68 = .ok (.putfield 49, 3) := by decide +kernel
theorem dX7_init_71 : decode cX7_init 71 = .ok (.aload_n 0, 1) := by decide +kernel
theorem dX7_init_72 : decode cX7_init 72 = .ok (.iconst 0, 1) := by decide +kernel
theorem dX7_init_73 : decode cX7_init 73 = .ok (.putfield 52, 3) := by decide +kernel
theorem dX7_init_76 : decode cX7_init 76 = .ok (.aload_n 0, 1) := by decide +kernel
theorem dX7_init_77 : decode cX7_init 77 = .ok (.iconst 0, 1) := by decide +kernel
theorem dX7_init_78 : decode cX7_init 78 = .ok (.putfield 55, 3) := by decide +kernel
theorem dX7_init_81 : decode cX7_init 81 = .ok (.aload_n 0, 1) := by decide +kernel
theorem dX7_init_82 : decode cX7_init 82 = .ok (.iconst 0, 1) := by decide +kernel
theorem dX7_init_83 : decode cX7_init 83 = .ok (.putfield 58, 3) := by decide +kernel
theorem dX7_init_86 : decode cX7_init 86 = .ok (.iconst 0, 1) := by decide +kernel
theorem dX7_init_87 : decode cX7_init 87 = .ok (.istore_n 1, 1) := by decide +kernel
theorem dX7_init_88 : decode cX7_init 88 = .ok (.iload_n 1, 1) := by decide +kernel
theorem dX7_init_89 : decode cX7_init 89 = .ok (.bipush 6, 2) := by decide +kernel
theorem dX7_init_91 : decode cX7_init 91 = .ok (.if_icmp .ge 17, 3) := by decide +kernel
theorem dX7_init_94 : decode cX7_init 94 = .ok (.aload_n 0, 1) := by decide +kernel
theorem dX7_init_95 : decode cX7_init 95 = .ok (.getfield 9, 3) := by decide +kernel
theorem dX7_init_98 : decode cX7_init 98 = .ok (.iload_n 1, 1) := by decide +kernel
theorem dX7_init_99 : decode cX7_init 99 = .ok (.bipush 20, 2) := by decide +kernel
theorem dX7_init_101 : decode cX7_init 101 = .ok (.iastore, 1) := by decide +kernel
theorem dX7_init_102 : decode cX7_init 102 = .ok (.iinc 1 1, 3) := by decide +kernel
theorem dX7_init_105 : decode cX7_init 105 = .ok (.goto (-17), 3) := by decide +kernel
theorem dX7_init_108 : decode cX7_init 108 = .ok (.return_, 1) := by decide +kernel
theorem dX7_copyFrom_0 : decode cX7_copyFrom 0 = .ok (.iconst 0, 1) := by decide +kernel
theorem dX7_copyFrom_1 : decode cX7_copyFrom 1 = .ok (.istore_n 2, 1) := by decide +kernel
theorem dX7_copyFrom_2 : decode cX7_copyFrom 2 = .ok (.iload_n 2, 1) := by decide +kernel
theorem dX7_copyFrom_3 : decode cX7_copyFrom 3 = .ok (.bipush 6, 2) := by decide +kernel
theorem dX7_copyFrom_5 : decode cX7_copyFrom 5 = .ok (.if_icmp .ge 21, 3) := by decide +kernel
theorem dX7_copyFrom_8 : decode cX7_copyFrom 8 = .ok (.aload_n 0, 1) := by decide +kernel
theorem dX7_copyFrom_9 : decode cX7_copyFrom 9 = .ok (.getfield 9, 3) := by decide +kernel
theorem dX7_copyFrom_12 : decode cX7_copyFrom 12 = .ok (.iload_n 2, 1) := by decide +kernel
theorem dX7_copyFrom_13 : decode cX7_copyFrom 13 = .ok (.aload_n 1, 1) := by decide +kernel
theorem dX7_copyFrom_14 : decode cX7_copyFrom 14 = .ok (.getfield 9, 3) := by decide +kernel
theorem dX7_copyFrom_17 : decode cX7_copyFrom 17 = .ok (.iload_n 2, 1) := by decide +kernel
theorem dX7_copyFrom_18 : decode cX7_copyFrom 18 = .ok (.iaload, 1) := by decide +kernel
theorem dX7_copyFrom_19 : decode cX7_copyFrom 19 = .ok (.iastore, 1) := by decide +kernel
theorem dX7_copyFrom_20 : decode cX7_copyFrom 20 = .ok (.iinc 2 1, 3) := by decide +kernel
theorem dX7_copyFrom_23 : decode cX7_copyFrom 23 = .ok (.goto (-21), 3) := by decide +kernel
theorem dX7_copyFrom_26 : decode cX7_copyFrom 26 = .ok (.aload_n 0, 1) := by decide +kernel
theorem dX7_copyFrom_27 : decode cX7_copyFrom 27 = .ok (.getfield 18, 3) := by decide +kernel
theorem dX7_copyFrom_30 : decode cX7_copyFrom 30 = .ok (.aload_n 1, 1) := by decide +kernel
theorem dX7_copyFrom_31 : decode cX7_copyFrom 31 = .ok (.getfield 18, 3) := by decide +kernel
theorem dX7_copyFrom_34 : decode cX7_copyFrom 34 = .ok (.invokevirtual 61, 3) := by decide +kernel
theorem dX7_copyFrom_37 : decode cX7_copyFrom 37 = .ok (.aload_n 0, 1) := by decide +kernel
theorem dX7_copyFrom_38 : decode cX7_copyFrom 38 = .ok (.getfield 25, 3) := by decide +kernel
theorem dX7_copyFrom_41 : decode cX7_copyFrom 41 = .ok (.aload_n 1, 1) := by decide +kernel
theorem dX7_copyFrom_42 : decode cX7_copyFrom 42 = .ok (.getfield 25, 3) := by decide +kernel
theorem dX7_copyFrom_45 : decode cX7_copyFrom 45 = .ok (.invokevirtual 65, 3) := by decide +kernel
theorem dX7_copyFrom_48 : decode cX7_copyFrom 48 = .ok (.aload_n 0, 1) := by decide +kernel
theorem dX7_copyFrom_49 : decode cX7_copyFrom 49 = .ok (.getfield 32, 3) := by decide +kernel
theorem dX7_copyFrom_52 : decode cX7_copyFrom 52 = .ok (.aload_n 1, 1) := by decide +kernel
theorem dX7_copyFrom_53 : decode cX7_copyFrom 53 = .ok (.getfield 32, 3) := by decide +kernel
theorem dX7_copyFrom_56 : decode cX7_copyFrom 56 = .ok (.invokevirtual 68, 3) := by decide +kernel
theorem dX7_copyFrom_59 : decode cX7_copyFrom 59 = .ok (.aload_n 0, 1) := by decide +kernel
theorem dX7_copyFrom_60 : decode cX7_copyFrom 60 = .ok (.aload_n 1, 1) := by decide +kernel
theorem dX7_copyFrom_61 : decode cX7_copyFrom 61 = .ok (.getfield 36, 3) := by decide +kernel
theorem dX7_copyFrom_64 : decode cX7_copyFrom 64 = .ok (.putfield 36, 3) := by decide +kernel
theorem dX7_copyFrom_67 : decode cX7_copyFrom 67 = .ok (.aload_n 0, 1) := by decide +kernel
theorem dX7_copyFrom_68 : decode cX7_copyFrom 68 = .ok (.aload_n 1, 1) := by decide +kernel
theorem dX7_copyFrom_69 : decode cX7_copyFrom 69 = .ok (.getfield 40, 3) := by decide +kernel
theorem dX7_copyFrom_72 : decode cX7_copyFrom 72 = .ok (.putfield 40, 3) := by decide +kernel
theorem dX7_copyFrom_75 : decode cX7_copyFrom 75 = .ok (.aload_n 0, 1) := by decide +kernel
theorem dX7_copyFrom_76 : decode cX7_copyFrom 76 = .ok (.aload_n 1, 1) := by decide +kernel
theorem dX7_copyFrom_77 : decode cX7_copyFrom 77 = .ok (.getfield 43, 3) := by decide +kernel
theorem dX7_copyFrom_80 : decode cX7_copyFrom 80 = .ok (.putfield 43, 3) := by decide +kernel
theorem dX7_copyFrom_83 : decode cX7_copyFrom 83 = .ok (.aload_n 0, 1) := by decide +kernel
theorem dX7_copyFrom_84 : decode cX7_copyFrom 84 = .ok (.aload_n 1, 1) := by decide +kernel
theorem dX7_copyFrom_85 : decode cX7_copyFrom 85 = .ok (.getfield 46, 3) := by decide +kernel
theorem dX7_copyFrom_88 : decode cX7_copyFrom 88 = .ok (.putfield 46, 3) := by decide +kernel
theorem dX7_copyFrom_91 : decode cX7_copyFrom 91 = .ok (.aload_n 0, 1) := by decide +kernel
theorem dX7_copyFrom_92 : decode cX7_copyFrom 92 = .ok (.aload_n 1, 1) := by decide +kernel
theorem dX7_copyFrom_93 : decode cX7_copyFrom 93 = .ok (.getfield 49, 3) := by decide +kernel
theorem dX7_copyFrom_96 : decode cX7_copyFrom 96 = .ok (.putfield 49, 3) := by decide +kernel
theorem dX7_copyFrom_99 : decode cX7_copyFrom 99 = .ok (.aload_n 0, 1) := by decide +kernel
theorem dX7_copyFrom_100 : decode cX7_copyFrom 100 = .ok (.aload_n 1, 1) := by decide +kernel
theorem dX7_copyFrom_101 : decode cX7_copyFrom 101 = .ok (.getfield 52, 3) := by decide +kernel
theorem dX7_copyFrom_104 : decode cX7_copyFrom 104 = .ok (.putfield 52, 3) := by decide +kernel
theorem dX7_copyFrom_107 : decode cX7_copyFrom 107 = .ok (.aload_n 0, 1) := by decide +kernel
theorem dX7_copyFrom_108 : decode cX7_copyFrom 108 = .ok (.aload_n 1, 1) := by decide +kernel
theorem dX7_copyFrom_109 : decode cX7_copyFrom 109 = .ok (.getfield 55, 3) := by decide +kernel
theorem dX7_copyFrom_112 : decode cX7_copyFrom 112 = .ok (.putfield 55, 3) := by decide +kernel
theorem dX7_copyFrom_115 : decode cX7_copyFrom 115 = .ok (.aload_n 0, 1) := by decide +kernel
theorem dX7_copyFrom_116 : decode cX7_copyFrom 116 = .ok (.aload_n 1, 1) := by decide +kernel
theorem dX7_copyFrom_117 : decode cX7_copyFrom 117 = .ok (.getfield 58, 3) := by decide +kernel
theorem dX7_copyFrom_120 : decode cX7_copyFrom 120 = .ok (.putfield 58, 3) := by decide +kernel
theorem dX7_copyFrom_123 : decode cX7_copyFrom 123 = .ok (.return_, 1) := by decide +kernel
theorem dX7_execute_0 : decode cX7_execute 0 = .ok (.aload_n 1, 1) := by decide +kernel
theorem dX7_execute_1 : decode cX7_execute 1 = .ok (.getfield 71, 3) := by decide +kernel
theorem dX7_execute_4 : decode cX7_execute 4 = .ok (.astore_n 2, 1) := by decide +kernel
theorem dX7_execute_5 : decode cX7_execute 5 = .ok (.getstatic 76, 3) := by decide +kernel
theorem dX7_execute_8 : decode cX7_execute 8 = .ok (.aload_n 1, 1) := by decide +kernel
theorem dX7_execute_9 : decode cX7_execute 9 = .ok (.getfield 81, 3) := by decide +kernel
theorem dX7_execute_12 : decode cX7_execute 12 = .ok (.invokevirtual 85, 3) := by decide +kernel
theorem dX7_execute_15 : decode cX7_execute 15 = .ok (.iaload, 1) := by decide +kernel
theorem dX7_execute_16 : decode cX7_execute 16 = .ok (.tableswitch 172 1 12 #[64, 72, 80, 88, 96, 113, 121, 129, 137, 148, 156, 164], 64) := by decide +kernel
theorem dX7_execute_80 : decode cX7_execute 80 = .ok (.aload_n 0, 1) := by decide +kernel
theorem dX7_execute_81 : decode cX7_execute 81 = .ok (.aload_n 2, 1) := by decide +kernel
theorem dX7_execute_82 : decode cX7_execute 82 = .ok (.iconst 0, 1) := by decide +kernel
theorem dX7_execute_83 : decode cX7_execute 83 = .ok (.iaload, 1) := by decide +kernel
theorem dX7_execute_84 : decode cX7_execute 84 = .ok (.invokevirtual 91, 3) := by decide +kernel
theorem dX7_execute_87 : decode cX7_execute 87 = .ok (.ireturn, 1) := by decide +kernel
theorem dX7_execute_88 : decode cX7_execute 88 = .ok (.aload_n 0, 1) := by decide +kernel
theorem dX7_execute_89 : decode cX7_execute 89 = .ok (.aload_n 2, 1) := by decide +kernel
theorem dX7_execute_90 : decode cX7_execute 90 = .ok (.iconst 0, 1) := by decide +kernel
theorem dX7_execute_91 : decode cX7_execute 91 = .ok (.iaload, 1) := by decide +kernel
theorem dX7_execute_92 : decode cX7_execute 92 = .ok (.invokevirtual 95, 3) := by decide +kernel
theorem dX7_execute_95 : decode cX7_execute 95 = .ok (.ireturn, 1) := by decide +kernel
theorem dX7_execute_96 : decode cX7_execute 96 = .ok (.aload_n 0, 1) := by decide +kernel
theorem dX7_execute_97 : decode cX7_execute 97 = .ok (.aload_n 2, 1) := by decide +kernel
theorem dX7_execute_98 : decode cX7_execute 98 = .ok (.iconst 0, 1) := by decide +kernel
theorem dX7_execute_99 : decode cX7_execute 99 = .ok (.iaload, 1) := by decide +kernel
theorem dX7_execute_100 : decode cX7_execute 100 = .ok (.invokevirtual 98, 3) := by decide +kernel
theorem dX7_execute_103 : decode cX7_execute 103 = .ok (.ireturn, 1) := by decide +kernel
theorem dX7_execute_104 : decode cX7_execute 104 = .ok (.aload_n 0, 1) := by decide +kernel
theorem dX7_execute_105 : decode cX7_execute 105 = .ok (.aload_n 2, 1) := by decide +kernel
theorem dX7_execute_106 : decode cX7_execute 106 = .ok (.iconst 0, 1) := by decide +kernel
theorem dX7_execute_107 : decode cX7_execute 107 = .ok (.iaload, 1) := by decide +kernel
theorem dX7_execute_108 : decode cX7_execute 108 = .ok (.invokevirtual 101, 3) := by decide +kernel
theorem dX7_execute_111 : decode cX7_execute 111 = .ok (.ireturn, 1) := by decide +kernel
theorem dX7_execute_112 : decode cX7_execute 112 = .ok (.aload_n 0, 1) := by decide +kernel
theorem dX7_execute_113 : decode cX7_execute 113 = .ok (.aload_n 2, 1) := by decide +kernel
theorem dX7_execute_114 : decode cX7_execute 114 = .ok (.iconst 0, 1) := by decide +kernel
theorem dX7_execute_115 : decode cX7_execute 115 = .ok (.iaload, 1) := by decide +kernel
theorem dX7_execute_116 : decode cX7_execute 116 = .ok (.aload_n 2, 1) := by decide +kernel
theorem dX7_execute_117 : decode cX7_execute 117 = .ok (.iconst 1, 1) := by decide +kernel
theorem dX7_execute_118 : decode cX7_execute 118 = .ok (.iaload, 1) := by decide +kernel
theorem dX7_execute_119 : decode cX7_execute 119 = .ok (.aload_n 2, 1) := by decide +kernel
theorem dX7_execute_120 : decode cX7_execute 120 = .ok (.iconst 2, 1) := by decide +kernel
theorem dX7_execute_121 : decode cX7_execute 121 = .ok (.iaload, 1) := by decide +kernel
theorem dX7_execute_122 : decode cX7_execute 122 = .ok (.aload_n 2, 1) := by decide +kernel
theorem dX7_execute_123 : decode cX7_execute 123 = .ok (.iconst 3, 1) := by decide +kernel
theorem dX7_execute_124 : decode cX7_execute 124 = .ok (.iaload, 1) := by decide +kernel
theorem dX7_execute_125 : decode cX7_execute 125 = .ok (.invokevirtual 104, 3) := by decide +kernel
theorem dX7_execute_128 : decode cX7_execute 128 = .ok (.ireturn, 1) := by decide +kernel
theorem dX7_execute_129 : decode cX7_execute 129 = .ok (.aload_n 0, 1) := by decide +kernel
theorem dX7_execute_130 : decode cX7_execute 130 = .ok (.aload_n 2, 1) := by decide +kernel
theorem dX7_execute_131 : decode cX7_execute 131 = .ok (.iconst 0, 1) := by decide +kernel
theorem dX7_execute_132 : decode cX7_execute 132 = .ok (.iaload, 1) := by decide +kernel
theorem dX7_execute_133 : decode cX7_execute 133 = .ok (.invokevirtual 108, 3) := by decide +kernel
theorem dX7_execute_136 : decode cX7_execute 136 = .ok (.ireturn, 1) := by decide +kernel
theorem dX7_execute_137 : decode cX7_execute 137 = .ok (.aload_n 0, 1) := by decide +kernel
theorem dX7_execute_138 : decode cX7_execute 138 = .ok (.aload_n 2, 1) := by decide +kernel
theorem dX7_execute_139 : decode cX7_execute 139 = .ok (.iconst 0, 1) := by decide +kernel
theorem dX7_execute_140 : decode cX7_execute 140 = .ok (.iaload, 1) := by decide +kernel
theorem dX7_execute_141 : decode cX7_execute 141 = .ok (.invokevirtual 111, 3) := by decide +kernel
theorem dX7_execute_144 : decode cX7_execute 144 = .ok (.ireturn, 1) := by decide +kernel
theorem dX7_execute_145 : decode cX7_execute 145 = .ok (.aload_n 0, 1) := by decide +kernel
theorem dX7_execute_146 : decode cX7_execute 146 = .ok (.aload_n 2, 1) := by decide +kernel
theorem dX7_execute_147 : decode cX7_execute 147 = .ok (.iconst 0, 1) := by decide +kernel
theorem dX7_execute_148 : decode cX7_execute 148 = .ok (.iaload, 1) := by decide +kernel
theorem dX7_execute_149 : decode cX7_execute 149 = .ok (.invokevirtual 114, 3) := by decide +kernel
theorem dX7_execute_152 : decode cX7_execute 152 = .ok (.ireturn, 1) := by decide +kernel
theorem dX7_execute_153 : decode cX7_execute 153 = .ok (.aload_n 0, 1) := by decide +kernel
theorem dX7_execute_154 : decode cX7_execute 154 = .ok (.aload_n 2, 1) := by decide +kernel
theorem dX7_execute_155 : decode cX7_execute 155 = .ok (.iconst 0, 1) := by decide +kernel
theorem dX7_execute_156 : decode cX7_execute 156 = .ok (.iaload, 1) := by decide +kernel
theorem dX7_execute_157 : decode cX7_execute 157 = .ok (.aload_n 2, 1) := by decide +kernel
theorem dX7_execute_158 : decode cX7_execute 158 = .ok (.iconst 1, 1) := by decide +kernel
theorem dX7_execute_159 : decode cX7_execute 159 = .ok (.iaload, 1) := by decide +kernel
theorem dX7_execute_160 : decode cX7_execute 160 = .ok (.invokevirtual 117, 3) := by decide +kernel
theorem dX7_execute_163 : decode cX7_execute 163 = .ok (.ireturn, 1) := by decide +kernel
theorem dX7_execute_164 : decode cX7_execute 164 = .ok (.aload_n 0, 1) := by decide +kernel
theorem dX7_execute_165 : decode cX7_execute 165 = .ok (.aload_n 2, 1) := by decide +kernel
theorem dX7_execute_166 : decode cX7_execute 166 = .ok (.iconst 0, 1) := by decide +kernel
theorem dX7_execute_167 : decode cX7_execute 167 = .ok (.iaload, 1) := by decide +kernel
theorem dX7_execute_168 : decode cX7_execute 168 = .ok (.invokevirtual 121, 3) := by decide +kernel
theorem dX7_execute_171 : decode cX7_execute 171 = .ok (.ireturn, 1) := by decide +kernel
theorem dX7_execute_172 : decode cX7_execute 172 = .ok (.aload_n 0, 1) := by decide +kernel
theorem dX7_execute_173 : decode cX7_execute 173 = .ok (.aload_n 2, 1) := by decide +kernel
theorem dX7_execute_174 : decode cX7_execute 174 = .ok (.iconst 0, 1) := by decide +kernel
theorem dX7_execute_175 : decode cX7_execute 175 = .ok (.iaload, 1) := by decide +kernel
theorem dX7_execute_176 : decode cX7_execute 176 = .ok (.invokevirtual 124, 3) := by decide +kernel
theorem dX7_execute_179 : decode cX7_execute 179 = .ok (.ireturn, 1) := by decide +kernel
theorem dX7_execute_180 : decode cX7_execute 180 = .ok (.aload_n 0, 1) := by decide +kernel
theorem dX7_execute_181 : decode cX7_execute 181 = .ok (.aload_n 2, 1) := by decide +kernel
theorem dX7_execute_182 : decode cX7_execute 182 = .ok (.iconst 0, 1) := by decide +kernel
theorem dX7_execute_183 : decode cX7_execute 183 = .ok (.iaload, 1) := by decide +kernel
theorem dX7_execute_184 : decode cX7_execute 184 = .ok (.invokevirtual 127, 3) := by decide +kernel
theorem dX7_execute_187 : decode cX7_execute 187 = .ok (.ireturn, 1) := by decide +kernel
theorem dX7_execute_188 : decode cX7_execute 188 = .ok (.aload_n 0, 1) := by decide +kernel
theorem dX7_execute_189 : decode cX7_execute 189 = .ok (.iconst 1, 1) := by decide +kernel
theorem dX7_execute_190 : decode cX7_execute 190 = .ok (.invokevirtual 127, 3) := by decide +kernel
theorem dX7_execute_193 : decode cX7_execute 193 = .ok (.ireturn, 1) := by decide +kernel
theorem dX7_takeGoblin_0 : decode cX7_takeGoblin 0 = .ok (.iload_n 1, 1) := by decide +kernel
theorem dX7_takeGoblin_1 : decode cX7_takeGoblin 1 = .ok (.iconst 1, 1) := by decide +kernel
theorem dX7_takeGoblin_2 : decode cX7_takeGoblin 2 = .ok (.if_icmp .lt 9, 3) := by decide +kernel
theorem dX7_takeGoblin_5 : decode cX7_takeGoblin 5 = .ok (.iload_n 1, 1) := by decide +kernel
theorem dX7_takeGoblin_6 : decode cX7_takeGoblin 6 = .ok (.bipush 9, 2) := by decide +kernel
theorem dX7_takeGoblin_8 : decode cX7_takeGoblin 8 = .ok (.if_icmp .le 6, 3) := by decide +kernel
theorem dX7_takeGoblin_11 : decode cX7_takeGoblin 11 = .ok (.bipush (-2), 2) := by decide +kernel
theorem dX7_takeGoblin_13 : decode cX7_takeGoblin 13 = .ok (.ireturn, 1) := by decide +kernel
theorem dX7_takeGoblin_14 : decode cX7_takeGoblin 14 = .ok (.aload_n 0, 1) := by decide +kernel
theorem dX7_takeGoblin_15 : decode cX7_takeGoblin 15 = .ok (.getfield 25, 3) := by decide +kernel
theorem dX7_takeGoblin_18 : decode cX7_takeGoblin 18 = .ok (.getfield 130, 3) := by decide +kernel
theorem dX7_takeGoblin_21 : decode cX7_takeGoblin 21 = .ok (.istore_n 2, 1) := by decide +kernel
theorem dX7_takeGoblin_22 : decode cX7_takeGoblin 22 = .ok (.iload_n 2, 1) := by decide +kernel
theorem dX7_takeGoblin_23 : decode cX7_takeGoblin 23 = .ok (.iconst 5, 1) := by decide +kernel
theorem dX7_takeGoblin_24 : decode cX7_takeGoblin 24 = .ok (.if_icmp .lt 6, 3) := by decide +kernel
theorem dX7_takeGoblin_27 : decode cX7_takeGoblin 27 = .ok (.bipush (-3), 2) := by decide +kernel
theorem dX7_takeGoblin_29 : decode cX7_takeGoblin 29 = .ok (.ireturn, 1) := by decide +kernel
theorem dX7_takeGoblin_30 : decode cX7_takeGoblin 30 = .ok (.aload_n 0, 1) := by decide +kernel
theorem dX7_takeGoblin_31 : decode cX7_takeGoblin 31 = .ok (.getfield 25, 3) := by decide +kernel
theorem dX7_takeGoblin_34 : decode cX7_takeGoblin 34 = .ok (.getfield 133, 3) := by decide +kernel
theorem dX7_takeGoblin_37 : decode cX7_takeGoblin 37 = .ok (.iload_n 2, 1) := by decide +kernel
theorem dX7_takeGoblin_38 : decode cX7_takeGoblin 38 = .ok (.iload_n 1, 1) := by decide +kernel
theorem dX7_takeGoblin_39 : decode cX7_takeGoblin 39 = .ok (.iastore, 1) := by decide +kernel
theorem dX7_takeGoblin_40 : decode cX7_takeGoblin 40 = .ok (.aload_n 0, 1) := by decide +kernel
theorem dX7_takeGoblin_41 : decode cX7_takeGoblin 41 = .ok (.getfield 25, 3) := by decide +kernel
theorem dX7_takeGoblin_44 : decode cX7_takeGoblin 44 = .ok (.getfield 136, 3) := by decide +kernel
theorem dX7_takeGoblin_47 : decode cX7_takeGoblin 47 = .ok (.iload_n 2, 1) := by decide +kernel
theorem dX7_takeGoblin_48 : decode cX7_takeGoblin 48 = .ok (.iconst 0, 1) := by decide +kernel
theorem dX7_takeGoblin_49 : decode cX7_takeGoblin 49 = .ok (.iastore, 1) := by decide +kernel
theorem dX7_takeGoblin_50 : decode cX7_takeGoblin 50 = .ok (.aload_n 0, 1) := by decide +kernel
theorem dX7_takeGoblin_51 : decode cX7_takeGoblin 51 = .ok (.getfield 25, 3) := by decide +kernel
theorem dX7_takeGoblin_54 : decode cX7_takeGoblin 54 = .ok (.getfield 139, 3) := by decide +kernel
theorem dX7_takeGoblin_57 : decode cX7_takeGoblin 57 = .ok (.iload_n 2, 1) := by decide +kernel
theorem dX7_takeGoblin_58 : decode cX7_takeGoblin 58 = .ok (.iconst 0, 1) := by decide +kernel
theorem dX7_takeGoblin_59 : decode cX7_takeGoblin 59 = .ok (.iastore, 1) := by decide +kernel
theorem dX7_takeGoblin_60 : decode cX7_takeGoblin 60 = .ok (.aload_n 0, 1) := by decide +kernel
theorem dX7_takeGoblin_61 : decode cX7_takeGoblin 61 = .ok (.getfield 25, 3) := by decide +kernel
theorem dX7_takeGoblin_64 : decode cX7_takeGoblin 64 = .ok (.getfield 142, 3) := by decide +kernel
theorem dX7_takeGoblin_67 : decode cX7_takeGoblin 67 = .ok (.iload_n 2, 1) := by decide +kernel
theorem dX7_takeGoblin_68 : decode cX7_takeGoblin 68 = .ok (.iconst 0, 1) := by decide +kernel
theorem dX7_takeGoblin_69 : decode cX7_takeGoblin 69 = .ok (.iastore, 1) := by decide +kernel
theorem dX7_takeGoblin_70 : decode cX7_takeGoblin 70 = .ok (.aload_n 0, 1) := by decide +kernel
theorem dX7_takeGoblin_71 : decode cX7_takeGoblin 71 = .ok (.getfield 25, 3) := by decide +kernel
theorem dX7_takeGoblin_74 : decode cX7_takeGoblin 74 = .ok (.getfield 145, 3) := by decide +kernel
theorem dX7_takeGoblin_77 : decode cX7_takeGoblin 77 = .ok (.iload_n 2, 1) := by decide +kernel
theorem dX7_takeGoblin_78 : decode cX7_takeGoblin 78 = .ok (.iconst 0, 1) := by decide +kernel
theorem dX7_takeGoblin_79 : decode cX7_takeGoblin 79 = .ok (.bastore, 1) := by decide +kernel
theorem dX7_takeGoblin_80 : decode cX7_takeGoblin 80 = .ok (.aload_n 0, 1) := by decide +kernel
theorem dX7_takeGoblin_81 : decode cX7_takeGoblin 81 = .ok (.getfield 25, 3) := by decide +kernel
theorem dX7_takeGoblin_84 : decode cX7_takeGoblin 84 = .ok (.dup, 1) := by decide +kernel
theorem dX7_takeGoblin_85 : decode cX7_takeGoblin 85 = .ok (.getfield 130, 3) := by decide +kernel
theorem dX7_takeGoblin_88 : decode cX7_takeGoblin 88 = .ok (.iconst 1, 1) := by decide +kernel
theorem dX7_takeGoblin_89 : decode cX7_takeGoblin 89 = .ok (.iadd, 1) := by decide +kernel
theorem dX7_takeGoblin_90 : decode cX7_takeGoblin 90 = .ok (.putfield 130, 3) := by decide +kernel
theorem dX7_takeGoblin_93 : decode cX7_takeGoblin 93 = .ok (.iload_n 2, 1) := by decide +kernel
theorem dX7_takeGoblin_94 : decode cX7_takeGoblin 94 = .ok (.ireturn, 1) := by decide +kernel
theorem dX7_takeBroom_0 : decode cX7_takeBroom 0 = .ok (.iload_n 1, 1) := by decide +kernel
theorem dX7_takeBroom_1 : decode cX7_takeBroom 1 = .ok (.iconst 1, 1) := by decide +kernel
theorem dX7_takeBroom_2 : decode cX7_takeBroom 2 = .ok (.if_icmp .lt 9, 3) := by decide +kernel
theorem dX7_takeBroom_5 : decode cX7_takeBroom 5 = .ok (.iload_n 1, 1) := by decide +kernel
theorem dX7_takeBroom_6 : decode cX7_takeBroom 6 = .ok (.bipush 20, 2) := by decide +kernel
theorem dX7_takeBroom_8 : decode cX7_takeBroom 8 = .ok (.if_icmp .le 6, 3) := by decide +kernel
theorem dX7_takeBroom_11 : decode cX7_takeBroom 11 = .ok (.bipush (-2), 2) := by decide +kernel
theorem dX7_takeBroom_13 : decode cX7_takeBroom 13 = .ok (.ireturn, 1) := by decide +kernel
theorem dX7_takeBroom_14 : decode cX7_takeBroom 14 = .ok (.aload_n 0, 1) := by decide +kernel
theorem dX7_takeBroom_15 : decode cX7_takeBroom 15 = .ok (.getfield 18, 3) := by decide +kernel
theorem dX7_takeBroom_18 : decode cX7_takeBroom 18 = .ok (.getfield 149, 3) := by decide +kernel
theorem dX7_takeBroom_21 : decode cX7_takeBroom 21 = .ok (.istore_n 2, 1) := by decide +kernel
theorem dX7_takeBroom_22 : decode cX7_takeBroom 22 = .ok (.iload_n 2, 1) := by decide +kernel
theorem dX7_takeBroom_23 : decode cX7_takeBroom 23 = .ok (.iconst 4, 1) := by decide +kernel
theorem dX7_takeBroom_24 : decode cX7_takeBroom 24 = .ok (.if_icmp .lt 6, 3) := by decide +kernel
theorem dX7_takeBroom_27 : decode cX7_takeBroom 27 = .ok (.bipush (-3), 2) := by decide +kernel
theorem dX7_takeBroom_29 : decode cX7_takeBroom 29 = .ok (.ireturn, 1) := by decide +kernel
theorem dX7_takeBroom_30 : decode cX7_takeBroom 30 = .ok (.aload_n 0, 1) := by decide +kernel
theorem dX7_takeBroom_31 : decode cX7_takeBroom 31 = .ok (.getfield 18, 3) := by decide +kernel
theorem dX7_takeBroom_34 : decode cX7_takeBroom 34 = .ok (.getfield 150, 3) := by decide +kernel
theorem dX7_takeBroom_37 : decode cX7_takeBroom 37 = .ok (.iload_n 2, 1) := by decide +kernel
theorem dX7_takeBroom_38 : decode cX7_takeBroom 38 = .ok (.iload_n 1, 1) := by decide +kernel
theorem dX7_takeBroom_39 : decode cX7_takeBroom 39 = .ok (.iastore, 1) := by decide +kernel
theorem dX7_takeBroom_40 : decode cX7_takeBroom 40 = .ok (.aload_n 0, 1) := by decide +kernel
theorem dX7_takeBroom_41 : decode cX7_takeBroom 41 = .ok (.getfield 18, 3) := by decide +kernel
theorem dX7_takeBroom_44 : decode cX7_takeBroom 44 = .ok (.getfield 153, 3) := by decide +kernel
theorem dX7_takeBroom_47 : decode cX7_takeBroom 47 = .ok (.iload_n 2, 1) := by decide +kernel
theorem dX7_takeBroom_48 : decode cX7_takeBroom 48 = .ok (.iconst 0, 1) := by decide +kernel
theorem dX7_takeBroom_49 : decode cX7_takeBroom 49 = .ok (.bastore, 1) := by decide +kernel
theorem dX7_takeBroom_50 : decode cX7_takeBroom 50 = .ok (.aload_n 0, 1) := by decide +kernel
theorem dX7_takeBroom_51 : decode cX7_takeBroom 51 = .ok (.getfield 18, 3) := by decide +kernel
theorem dX7_takeBroom_54 : decode cX7_takeBroom 54 = .ok (.dup, 1) := by decide +kernel
theorem dX7_takeBroom_55 : decode cX7_takeBroom 55 = .ok (.getfield 149, 3) := by decide +kernel
theorem dX7_takeBroom_58 : decode cX7_takeBroom 58 = .ok (.iconst 1, 1) := by decide +kernel
theorem dX7_takeBroom_59 : decode cX7_takeBroom 59 = .ok (.iadd, 1) := by decide +kernel
theorem dX7_takeBroom_60 : decode cX7_takeBroom 60 = .ok (.putfield 149, 3) := by decide +kernel
theorem dX7_takeBroom_63 : decode cX7_takeBroom 63 = .ok (.iload_n 2, 1) := by decide +kernel
theorem dX7_takeBroom_64 : decode cX7_takeBroom 64 = .ok (.ireturn, 1) := by decide +kernel
theorem dX7_putBroomAway_0 : decode cX7_putBroomAway 0 = .ok (.aload_n 0, 1) := by decide +kernel
theorem dX7_putBroomAway_1 : decode cX7_putBroomAway 1 = .ok (.getfield 18, 3) := by decide +kernel
theorem dX7_putBroomAway_4 : decode cX7_putBroomAway 4 = .ok (.iload_n 1, 1) := by decide +kernel
theorem dX7_putBroomAway_5 : decode cX7_putBroomAway 5 = .ok (.invokevirtual 156, 3) := by decide +kernel
theorem dX7_putBroomAway_8 : decode cX7_putBroomAway 8 = .ok (.ifCond .ne 5, 3) := by decide +kernel
theorem dX7_putBroomAway_11 : decode cX7_putBroomAway 11 = .ok (.iconst (-1), 1) := by decide +kernel
theorem dX7_putBroomAway_12 : decode cX7_putBroomAway 12 = .ok (.ireturn, 1) := by decide +kernel
theorem dX7_putBroomAway_13 : decode cX7_putBroomAway 13 = .ok (.aload_n 0, 1) := by decide +kernel
theorem dX7_putBroomAway_14 : decode cX7_putBroomAway 14 = .ok (.getfield 18, 3) := by decide +kernel
theorem dX7_putBroomAway_17 : decode cX7_putBroomAway 17 = .ok (.getfield 153, 3) := by decide +kernel
theorem dX7_putBroomAway_20 : decode cX7_putBroomAway 20 = .ok (.iload_n 1, 1) := by decide +kernel
theorem dX7_putBroomAway_21 : decode cX7_putBroomAway 21 = .ok (.baload, 1) := by decide +kernel
theorem dX7_putBroomAway_22 : decode cX7_putBroomAway 22 = .ok (.ifCond .eq 6, 3) := by decide +kernel
theorem dX7_putBroomAway_25 : decode cX7_putBroomAway 25 = .ok (.bipush (-3), 2) := by decide +kernel
theorem dX7_putBroomAway_27 : decode cX7_putBroomAway 27 = .ok (.ireturn, 1) := by decide +kernel
theorem dX7_putBroomAway_28 : decode cX7_putBroomAway 28 = .ok (.aload_n 0, 1) := by decide +kernel
theorem dX7_putBroomAway_29 : decode cX7_putBroomAway 29 = .ok (.getfield 18, 3) := by decide +kernel
theorem dX7_putBroomAway_32 : decode cX7_putBroomAway 32 = .ok (.getfield 153, 3) := by decide +kernel
theorem dX7_putBroomAway_35 : decode cX7_putBroomAway 35 = .ok (.iload_n 1, 1) := by decide +kernel
theorem dX7_putBroomAway_36 : decode cX7_putBroomAway 36 = .ok (.iconst 1, 1) := by decide +kernel
theorem dX7_putBroomAway_37 : decode cX7_putBroomAway 37 = .ok (.bastore, 1) := by decide +kernel
theorem dX7_putBroomAway_38 : decode cX7_putBroomAway 38 = .ok (.aload_n 0, 1) := by decide +kernel
theorem dX7_putBroomAway_39 : decode cX7_putBroomAway 39 = .ok (.getfield 18, 3) := by decide +kernel
theorem dX7_putBroomAway_42 : decode cX7_putBroomAway 42 = .ok (.invokevirtual 160, 3) := by decide +kernel
theorem dX7_putBroomAway_45 : decode cX7_putBroomAway 45 = .ok (.ireturn, 1) := by decide +kernel
theorem dX7_fetchBroom_0 : decode cX7_fetchBroom 0 = .ok (.aload_n 0, 1) := by decide +kernel
theorem dX7_fetchBroom_1 : decode cX7_fetchBroom 1 = .ok (.getfield 18, 3) := by decide +kernel
theorem dX7_fetchBroom_4 : decode cX7_fetchBroom 4 = .ok (.iload_n 1, 1) := by decide +kernel
theorem dX7_fetchBroom_5 : decode cX7_fetchBroom 5 = .ok (.invokevirtual 156, 3) := by decide +kernel
theorem dX7_fetchBroom_8 : decode cX7_fetchBroom 8 = .ok (.ifCond .ne 5, 3) := by decide +kernel
theorem dX7_fetchBroom_11 : decode cX7_fetchBroom 11 = .ok (.iconst (-1), 1) := by decide +kernel
theorem dX7_fetchBroom_12 : decode cX7_fetchBroom 12 = .ok (.ireturn, 1) := by decide +kernel
theorem dX7_fetchBroom_13 : decode cX7_fetchBroom 13 = .ok (.aload_n 0, 1) := by decide +kernel
theorem dX7_fetchBroom_14 : decode cX7_fetchBroom 14 = .ok (.getfield 18, 3) := by decide +kernel
theorem dX7_fetchBroom_17 : decode cX7_fetchBroom 17 = .ok (.getfield 153, 3) := by decide +kernel
theorem dX7_fetchBroom_20 : decode cX7_fetchBroom 20 = .ok (.iload_n 1, 1) := by decide +kernel
theorem dX7_fetchBroom_21 : decode cX7_fetchBroom 21 = .ok (.baload, 1) := by decide +kernel
theorem dX7_fetchBroom_22 : decode cX7_fetchBroom 22 = .ok (.ifCond .ne 6, 3) := by decide +kernel
theorem dX7_fetchBroom_25 : decode cX7_fetchBroom 25 = .ok (.bipush (-3), 2) := by decide +kernel
theorem dX7_fetchBroom_27 : decode cX7_fetchBroom 27 = .ok (.ireturn, 1) := by decide +kernel
theorem dX7_fetchBroom_28 : decode cX7_fetchBroom 28 = .ok (.aload_n 0, 1) := by decide +kernel
theorem dX7_fetchBroom_29 : decode cX7_fetchBroom 29 = .ok (.getfield 18, 3) := by decide +kernel
theorem dX7_fetchBroom_32 : decode cX7_fetchBroom 32 = .ok (.getfield 153, 3) := by decide +kernel
theorem dX7_fetchBroom_35 : decode cX7_fetchBroom 35 = .ok (.iload_n 1, 1) := by decide +kernel
theorem dX7_fetchBroom_36 : decode cX7_fetchBroom 36 = .ok (.iconst 0, 1) := by decide +kernel
theorem dX7_fetchBroom_37 : decode cX7_fetchBroom 37 = .ok (.bastore, 1) := by decide +kernel
theorem dX7_fetchBroom_38 : decode cX7_fetchBroom 38 = .ok (.aload_n 0, 1) := by decide +kernel
theorem dX7_fetchBroom_39 : decode cX7_fetchBroom 39 = .ok (.getfield 18, 3) := by decide +kernel
theorem dX7_fetchBroom_42 : decode cX7_fetchBroom 42 = .ok (.invokevirtual 160, 3) := by decide +kernel
theorem dX7_fetchBroom_45 : decode cX7_fetchBroom 45 = .ok (.ireturn, 1) := by decide +kernel
theorem dX7_signContract_0 : decode cX7_signContract 0 = .ok (.aload_n 0, 1) := by decide +kernel
theorem dX7_signContract_1 : decode cX7_signContract 1 = .ok (.getfield 25, 3) := by decide +kernel
theorem dX7_signContract_4 : decode cX7_signContract 4 = .ok (.iload_n 1, 1) := by decide +kernel
theorem dX7_signContract_5 : decode cX7_signContract 5 = .ok (.invokevirtual 163, 3) := by decide +kernel
theorem dX7_signContract_8 : decode cX7_signContract 8 = .ok (.ifCond .eq 13, 3) := by decide +kernel
theorem dX7_signContract_11 : decode cX7_signContract 11 = .ok (.iload_n 2, 1) := by decide +kernel
theorem dX7_signContract_12 : decode cX7_signContract 12 = .ok (.ifCond .lt 9, 3) := by decide +kernel
theorem dX7_signContract_15 : decode cX7_signContract 15 = .ok (.iload_n 2, 1) := by decide +kernel
theorem dX7_signContract_16 : decode cX7_signContract 16 = .ok (.bipush 6, 2) := by decide +kernel
theorem dX7_signContract_18 : decode cX7_signContract 18 = .ok (.if_icmp .lt 5, 3) := by decide +kernel
theorem dX7_signContract_21 : decode cX7_signContract 21 = .ok (.iconst (-1), 1) := by decide +kernel
theorem dX7_signContract_22 : decode cX7_signContract 22 = .ok (.ireturn, 1) := by decide +kernel
theorem dX7_signContract_23 : decode cX7_signContract 23 = .ok (.iload_n 3, 1) := by decide +kernel
theorem dX7_signContract_24 : decode cX7_signContract 24 = .ok (.iconst 1, 1) := by decide +kernel
theorem dX7_signContract_25 : decode cX7_signContract 25 = .ok (.if_icmp .lt 22, 3) := by decide +kernel
theorem dX7_signContract_28 : decode cX7_signContract 28 = .ok (.iload_n 3, 1) := by decide +kernel
theorem dX7_signContract_29 : decode cX7_signContract 29 = .ok (.bipush 50, 2) := by decide +kernel
theorem dX7_signContract_31 : decode cX7_signContract 31 = .ok (.if_icmp .gt 16, 3) := by decide +kernel
theorem dX7_signContract_34 : decode cX7_signContract 34 = .ok (.iload 4, 2) := by decide +kernel
theorem dX7_signContract_36 : decode cX7_signContract 36 = .ok (.iconst 1, 1) := by decide +kernel
theorem dX7_signContract_37 : decode cX7_signContract 37 = .ok (.if_icmp .lt 10, 3) := by decide +kernel
theorem dX7_signContract_40 : decode cX7_signContract 40 = .ok (.iload 4, 2) := by decide +kernel
theorem dX7_signContract_42 : decode cX7_signContract 42 = .ok (.bipush 20, 2) := by decide +kernel
theorem dX7_signContract_44 : decode cX7_signContract 44 = .ok (.if_icmp .le 6, 3) := by decide +kernel
theorem dX7_signContract_47 : decode cX7_signContract 47 = .ok (.bipush (-2), 2) := by decide +kernel
theorem dX7_signContract_49 : decode cX7_signContract 49 = .ok (.ireturn, 1) := by decide +kernel
theorem dX7_signContract_50 : decode cX7_signContract 50 = .ok (.aload_n 0, 1) := by decide +kernel
theorem dX7_signContract_51 : decode cX7_signContract 51 = .ok (.getfield 32, 3) := by decide +kernel
theorem dX7_signContract_54 : decode cX7_signContract 54 = .ok (.getfield 164, 3) := by decide +kernel
theorem dX7_signContract_57 : decode cX7_signContract 57 = .ok (.istore 5, 2) := by decide +kernel
theorem dX7_signContract_59 : decode cX7_signContract 59 = .ok (.iload 5, 2) := by decide +kernel
theorem dX7_signContract_61 : decode cX7_signContract 61 = .ok (.bipush 8, 2) := by decide +kernel
theorem dX7_signContract_63 : decode cX7_signContract 63 = .ok (.if_icmp .lt 6, 3) := by decide +kernel
theorem dX7_signContract_66 : decode cX7_signContract 66 = .ok (.bipush (-3), 2) := by decide +kernel
theorem dX7_signContract_68 : decode cX7_signContract 68 = .ok (.ireturn, 1) := by decide +kernel
theorem dX7_signContract_69 : decode cX7_signContract 69 = .ok (.aload_n 0, 1) := by decide +kernel
theorem dX7_signContract_70 : decode cX7_signContract 70 = .ok (.getfield 32, 3) := by decide +kernel
theorem dX7_signContract_73 : decode cX7_signContract 73 = .ok (.iload_n 1, 1) := by decide +kernel
theorem dX7_signContract_74 : decode cX7_signContract 74 = .ok (.iload_n 2, 1) := by decide +kernel
theorem dX7_signContract_75 : decode cX7_signContract 75 = .ok (.invokevirtual 165, 3) := by decide +kernel
theorem dX7_signContract_78 : decode cX7_signContract 78 = .ok (.ifCond .eq 6, 3) := by decide +kernel
theorem dX7_signContract_81 : decode cX7_signContract 81 = .ok (.bipush (-4), 2) := by decide +kernel
theorem dX7_signContract_83 : decode cX7_signContract 83 = .ok (.ireturn, 1) := by decide +kernel
theorem dX7_signContract_84 : decode cX7_signContract 84 = .ok (.aload_n 0, 1) := by decide +kernel
theorem dX7_signContract_85 : decode cX7_signContract 85 = .ok (.getfield 32, 3) := by decide +kernel
theorem dX7_signContract_88 : decode cX7_signContract 88 = .ok (.getfield 169, 3) := by decide +kernel
theorem dX7_signContract_91 : decode cX7_signContract 91 = .ok (.istore 6, 2) := by decide +kernel
theorem dX7_signContract_93 : decode cX7_signContract 93 = .ok (.aload_n 0, 1) := by decide +kernel
theorem dX7_signContract_94 : decode cX7_signContract 94 = .ok (.getfield 32, 3) := by decide +kernel
theorem dX7_signContract_97 : decode cX7_signContract 97 = .ok (.getfield 172, 3) := by decide +kernel
theorem dX7_signContract_100 : decode cX7_signContract 100 = .ok (.iload 5, 2) := by decide +kernel
theorem dX7_signContract_102 : decode cX7_signContract 102 = .ok (.iload 6, 2) := by decide +kernel
theorem dX7_signContract_104 : decode cX7_signContract 104 = .ok (.iastore, 1) := by decide +kernel
theorem dX7_signContract_105 : decode cX7_signContract 105 = .ok (.aload_n 0, 1) := by decide +kernel
theorem dX7_signContract_106 : decode cX7_signContract 106 = .ok (.getfield 32, 3) := by decide +kernel
theorem dX7_signContract_109 : decode cX7_signContract 109 = .ok (.getfield 175, 3) := by decide +kernel
theorem dX7_signContract_112 : decode cX7_signContract 112 = .ok (.iload 5, 2) := by decide +kernel
theorem dX7_signContract_114 : decode cX7_signContract 114 = .ok (.iload_n 1, 1) := by decide +kernel
theorem dX7_signContract_115 : decode cX7_signContract 115 = .ok (.iastore, 1) := by decide +kernel
theorem dX7_signContract_116 : decode cX7_signContract 116 = .ok (.aload_n 0, 1) := by decide +kernel
theorem dX7_signContract_117 : decode cX7_signContract 117 = .ok (.getfield 32, 3) := by decide +kernel
theorem dX7_signContract_120 : decode cX7_signContract 120 = .ok (.getfield 177, 3) := by decide +kernel
theorem dX7_signContract_123 : decode cX7_signContract 123 = .ok (.iload 5, 2) := by decide +kernel
theorem dX7_signContract_125 : decode cX7_signContract 125 = .ok (.iload_n 2, 1) := by decide +kernel
theorem dX7_signContract_126 : decode cX7_signContract 126 = .ok (.iastore, 1) := by decide +kernel
theorem dX7_signContract_127 : decode cX7_signContract 127 = .ok (.aload_n 0, 1) := by decide +kernel
theorem dX7_signContract_128 : decode cX7_signContract 128 = .ok (.getfield 32, 3) := by decide +kernel
theorem dX7_signContract_131 : decode cX7_signContract 131 = .ok (.getfield 180, 3) := by decide +kernel
theorem dX7_signContract_134 : decode cX7_signContract 134 = .ok (.iload 5, 2) := by decide +kernel
theorem dX7_signContract_136 : decode cX7_signContract 136 = .ok (.iload_n 3, 1) := by decide +kernel
theorem dX7_signContract_137 : decode cX7_signContract 137 = .ok (.iastore, 1) := by decide +kernel
theorem dX7_signContract_138 : decode cX7_signContract 138 = .ok (.aload_n 0, 1) := by decide +kernel
theorem dX7_signContract_139 : decode cX7_signContract 139 = .ok (.getfield 32, 3) := by decide +kernel
theorem dX7_signContract_142 : decode cX7_signContract 142 = .ok (.getfield 183, 3) := by decide +kernel
theorem dX7_signContract_145 : decode cX7_signContract 145 = .ok (.iload 5, 2) := by decide +kernel
theorem dX7_signContract_147 : decode cX7_signContract 147 = .ok (.iload 4, 2) := by decide +kernel
theorem dX7_signContract_149 : decode cX7_signContract 149 = .ok (.iastore, 1) := by decide +kernel
theorem dX7_signContract_150 : decode cX7_signContract 150 = .ok (.aload_n 0, 1) := by decide +kernel
theorem dX7_signContract_151 : decode cX7_signContract 151 = .ok (.getfield 32, 3) := by decide +kernel
theorem dX7_signContract_154 : decode cX7_signContract 154 = .ok (.dup, 1) := by decide +kernel
theorem dX7_signContract_155 : decode cX7_signContract 155 = .ok (.getfield 164, 3) := by decide +kernel
theorem dX7_signContract_158 : decode cX7_signContract 158 = .ok (.iconst 1, 1) := by decide +kernel
theorem dX7_signContract_159 : decode cX7_signContract 159 = .ok (.iadd, 1) := by decide +kernel
theorem dX7_signContract_160 : decode cX7_signContract 160 = .ok (.putfield 164, 3) := by decide +kernel
theorem dX7_signContract_163 : decode cX7_signContract 163 = .ok (.aload_n 0, 1) := by decide +kernel
theorem dX7_signContract_164 : decode cX7_signContract 164 = .ok (.getfield 32, 3) := by decide +kernel
theorem dX7_signContract_167 : decode cX7_signContract 167 = .ok (.dup, 1) := by decide +kernel
theorem dX7_signContract_168 : decode cX7_signContract 168 = .ok (.getfield 169, 3) := by decide +kernel
theorem dX7_signContract_171 : decode cX7_signContract 171 = .ok (.iconst 1, 1) := by decide +kernel
theorem dX7_signContract_172 : decode cX7_signContract 172 = .ok (.iadd, 1) := by decide +kernel
theorem dX7_signContract_173 : decode cX7_signContract 173 = .ok (.putfield 169, 3) := by decide +kernel
theorem dX7_signContract_176 : decode cX7_signContract 176 = .ok (.iload 6, 2) := by decide +kernel
theorem dX7_signContract_178 : decode cX7_signContract 178 = .ok (.ireturn, 1) := by decide +kernel
theorem dX7_dropContract_0 : decode cX7_dropContract 0 = .ok (.aload_n 0, 1) := by decide +kernel
theorem dX7_dropContract_1 : decode cX7_dropContract 1 = .ok (.getfield 32, 3) := by decide +kernel
theorem dX7_dropContract_4 : decode cX7_dropContract 4 = .ok (.iload_n 1, 1) := by decide +kernel
theorem dX7_dropContract_5 : decode cX7_dropContract 5 = .ok (.invokevirtual 186, 3) := by decide +kernel
theorem dX7_dropContract_8 : decode cX7_dropContract 8 = .ok (.istore_n 2, 1) := by decide +kernel
theorem dX7_dropContract_9 : decode cX7_dropContract 9 = .ok (.iload_n 2, 1) := by decide +kernel
theorem dX7_dropContract_10 : decode cX7_dropContract 10 = .ok (.iconst (-1), 1) := by decide +kernel
theorem dX7_dropContract_11 : decode cX7_dropContract 11 = .ok (.if_icmp .ne 6, 3) := by decide +kernel
theorem dX7_dropContract_14 : decode cX7_dropContract 14 = .ok (.bipush (-5), 2) := by decide +kernel
theorem dX7_dropContract_16 : decode cX7_dropContract 16 = .ok (.ireturn, 1) := by decide +kernel
theorem dX7_dropContract_17 : decode cX7_dropContract 17 = .ok (.aload_n 0, 1) := by decide +kernel
theorem dX7_dropContract_18 : decode cX7_dropContract 18 = .ok (.getfield 32, 3) := by decide +kernel
theorem dX7_dropContract_21 : decode cX7_dropContract 21 = .ok (.getfield 180, 3) := by decide +kernel
theorem dX7_dropContract_24 : decode cX7_dropContract 24 = .ok (.iload_n 2, 1) := by decide +kernel
theorem dX7_dropContract_25 : decode cX7_dropContract 25 = .ok (.iaload, 1) := by decide +kernel
theorem dX7_dropContract_26 : decode cX7_dropContract 26 = .ok (.bipush 10, 2) := by decide +kernel
theorem dX7_dropContract_28 : decode cX7_dropContract 28 = .ok (.idiv, 1) := by decide +kernel
theorem dX7_dropContract_29 : decode cX7_dropContract 29 = .ok (.aload_n 0, 1) := by decide +kernel
theorem dX7_dropContract_30 : decode cX7_dropContract 30 = .ok (.getfield 40, 3) := by decide +kernel
theorem dX7_dropContract_33 : decode cX7_dropContract 33 = .ok (.invokestatic 189, 3) := by decide +kernel
theorem dX7_dropContract_36 : decode cX7_dropContract 36 = .ok (.istore_n 3, 1) := by decide +kernel
theorem dX7_dropContract_37 : decode cX7_dropContract 37 = .ok (.aload_n 0, 1) := by decide +kernel
theorem dX7_dropContract_38 : decode cX7_dropContract 38 = .ok (.dup, 1) := by decide +kernel
theorem dX7_dropContract_39 : decode cX7_dropContract 39 = .ok (.getfield 40, 3) := by decide +kernel
theorem dX7_dropContract_42 : decode cX7_dropContract 42 = .ok (.iload_n 3, 1) := by decide +kernel
theorem dX7_dropContract_43 : decode cX7_dropContract 43 = .ok (.isub, 1) := by decide +kernel
theorem dX7_dropContract_44 : decode cX7_dropContract 44 = .ok (.putfield 40, 3) := by decide +kernel
theorem dX7_dropContract_47 : decode cX7_dropContract 47 = .ok (.aload_n 0, 1) := by decide +kernel
theorem dX7_dropContract_48 : decode cX7_dropContract 48 = .ok (.getfield 25, 3) := by decide +kernel
theorem dX7_dropContract_51 : decode cX7_dropContract 51 = .ok (.getfield 136, 3) := by decide +kernel
theorem dX7_dropContract_54 : decode cX7_dropContract 54 = .ok (.aload_n 0, 1) := by decide +kernel
theorem dX7_dropContract_55 : decode cX7_dropContract 55 = .ok (.getfield 32, 3) := by decide +kernel
theorem dX7_dropContract_58 : decode cX7_dropContract 58 = .ok (.getfield 175, 3) := by decide +kernel
theorem dX7_dropContract_61 : decode cX7_dropContract 61 = .ok (.iload_n 2, 1) := by decide +kernel
theorem dX7_dropContract_62 : decode cX7_dropContract 62 = .ok (.iaload, 1) := by decide +kernel
theorem dX7_dropContract_63 : decode cX7_dropContract 63 = .ok (.dup2, 1) := by decide +kernel
theorem dX7_dropContract_64 : decode cX7_dropContract 64 = .ok (.iaload, 1) := by decide +kernel
theorem dX7_dropContract_65 : decode cX7_dropContract 65 = .ok (.iload_n 3, 1) := by decide +kernel
theorem dX7_dropContract_66 : decode cX7_dropContract 66 = .ok (.iadd, 1) := by decide +kernel
theorem dX7_dropContract_67 : decode cX7_dropContract 67 = .ok (.iastore, 1) := by decide +kernel
theorem dX7_dropContract_68 : decode cX7_dropContract 68 = .ok (.aload_n 0, 1) := by decide +kernel
theorem dX7_dropContract_69 : decode cX7_dropContract 69 = .ok (.getfield 32, 3) := by decide +kernel
theorem dX7_dropContract_72 : decode cX7_dropContract 72 = .ok (.iload_n 2, 1) := by decide +kernel
theorem dX7_dropContract_73 : decode cX7_dropContract 73 = .ok (.invokevirtual 194, 3) := by decide +kernel
theorem dX7_dropContract_76 : decode cX7_dropContract 76 = .ok (.iload_n 3, 1) := by decide +kernel
theorem dX7_dropContract_77 : decode cX7_dropContract 77 = .ok (.ireturn, 1) := by decide +kernel
theorem dX7_sendToBed_0 : decode cX7_sendToBed 0 = .ok (.aload_n 0, 1) := by decide +kernel
theorem dX7_sendToBed_1 : decode cX7_sendToBed 1 = .ok (.getfield 25, 3) := by decide +kernel
theorem dX7_sendToBed_4 : decode cX7_sendToBed 4 = .ok (.iload_n 1, 1) := by decide +kernel
theorem dX7_sendToBed_5 : decode cX7_sendToBed 5 = .ok (.invokevirtual 163, 3) := by decide +kernel
theorem dX7_sendToBed_8 : decode cX7_sendToBed 8 = .ok (.ifCond .ne 5, 3) := by decide +kernel
theorem dX7_sendToBed_11 : decode cX7_sendToBed 11 = .ok (.iconst (-1), 1) := by decide +kernel
theorem dX7_sendToBed_12 : decode cX7_sendToBed 12 = .ok (.ireturn, 1) := by decide +kernel
theorem dX7_sendToBed_13 : decode cX7_sendToBed 13 = .ok (.aload_n 0, 1) := by decide +kernel
theorem dX7_sendToBed_14 : decode cX7_sendToBed 14 = .ok (.getfield 25, 3) := by decide +kernel
theorem dX7_sendToBed_17 : decode cX7_sendToBed 17 = .ok (.getfield 145, 3) := by decide +kernel
theorem dX7_sendToBed_20 : decode cX7_sendToBed 20 = .ok (.iload_n 1, 1) := by decide +kernel
theorem dX7_sendToBed_21 : decode cX7_sendToBed 21 = .ok (.baload, 1) := by decide +kernel
theorem dX7_sendToBed_22 : decode cX7_sendToBed 22 = .ok (.ifCond .eq 6, 3) := by decide +kernel
theorem dX7_sendToBed_25 : decode cX7_sendToBed 25 = .ok (.bipush (-3), 2) := by decide +kernel
theorem dX7_sendToBed_27 : decode cX7_sendToBed 27 = .ok (.ireturn, 1) := by decide +kernel
theorem dX7_sendToBed_28 : decode cX7_sendToBed 28 = .ok (.aload_n 0, 1) := by decide +kernel
theorem dX7_sendToBed_29 : decode cX7_sendToBed 29 = .ok (.getfield 25, 3) := by decide +kernel
theorem dX7_sendToBed_32 : decode cX7_sendToBed 32 = .ok (.getfield 145, 3) := by decide +kernel
theorem dX7_sendToBed_35 : decode cX7_sendToBed 35 = .ok (.iload_n 1, 1) := by decide +kernel
theorem dX7_sendToBed_36 : decode cX7_sendToBed 36 = .ok (.iconst 1, 1) := by decide +kernel
theorem dX7_sendToBed_37 : decode cX7_sendToBed 37 = .ok (.bastore, 1) := by decide +kernel
theorem dX7_sendToBed_38 : decode cX7_sendToBed 38 = .ok (.aload_n 0, 1) := by decide +kernel
theorem dX7_sendToBed_39 : decode cX7_sendToBed 39 = .ok (.getfield 25, 3) := by decide +kernel
theorem dX7_sendToBed_42 : decode cX7_sendToBed 42 = .ok (.invokevirtual 198, 3) := by decide +kernel
theorem dX7_sendToBed_45 : decode cX7_sendToBed 45 = .ok (.ireturn, 1) := by decide +kernel
theorem dX7_getOutOfBed_0 : decode cX7_getOutOfBed 0 = .ok (.aload_n 0, 1) := by decide +kernel
theorem dX7_getOutOfBed_1 : decode cX7_getOutOfBed 1 = .ok (.getfield 25, 3) := by decide +kernel
theorem dX7_getOutOfBed_4 : decode cX7_getOutOfBed 4 = .ok (.iload_n 1, 1) := by decide +kernel
theorem dX7_getOutOfBed_5 : decode cX7_getOutOfBed 5 = .ok (.invokevirtual 163, 3) := by decide +kernel
theorem dX7_getOutOfBed_8 : decode cX7_getOutOfBed 8 = .ok (.ifCond .ne 5, 3) := by decide +kernel
theorem dX7_getOutOfBed_11 : decode cX7_getOutOfBed 11 = .ok (.iconst (-1), 1) := by decide +kernel
theorem dX7_getOutOfBed_12 : decode cX7_getOutOfBed 12 = .ok (.ireturn, 1) := by decide +kernel
theorem dX7_getOutOfBed_13 : decode cX7_getOutOfBed 13 = .ok (.aload_n 0, 1) := by decide +kernel
theorem dX7_getOutOfBed_14 : decode cX7_getOutOfBed 14 = .ok (.getfield 25, 3) := by decide +kernel
theorem dX7_getOutOfBed_17 : decode cX7_getOutOfBed 17 = .ok (.getfield 145, 3) := by decide +kernel
theorem dX7_getOutOfBed_20 : decode cX7_getOutOfBed 20 = .ok (.iload_n 1, 1) := by decide +kernel
theorem dX7_getOutOfBed_21 : decode cX7_getOutOfBed 21 = .ok (.baload, 1) := by decide +kernel
theorem dX7_getOutOfBed_22 : decode cX7_getOutOfBed 22 = .ok (.ifCond .ne 6, 3) := by decide +kernel
theorem dX7_getOutOfBed_25 : decode cX7_getOutOfBed 25 = .ok (.bipush (-3), 2) := by decide +kernel
theorem dX7_getOutOfBed_27 : decode cX7_getOutOfBed 27 = .ok (.ireturn, 1) := by decide +kernel
theorem dX7_getOutOfBed_28 : decode cX7_getOutOfBed 28 = .ok (.aload_n 0, 1) := by decide +kernel
theorem dX7_getOutOfBed_29 : decode cX7_getOutOfBed 29 = .ok (.getfield 25, 3) := by decide +kernel
theorem dX7_getOutOfBed_32 : decode cX7_getOutOfBed 32 = .ok (.getfield 145, 3) := by decide +kernel
theorem dX7_getOutOfBed_35 : decode cX7_getOutOfBed 35 = .ok (.iload_n 1, 1) := by decide +kernel
theorem dX7_getOutOfBed_36 : decode cX7_getOutOfBed 36 = .ok (.iconst 0, 1) := by decide +kernel
theorem dX7_getOutOfBed_37 : decode cX7_getOutOfBed 37 = .ok (.bastore, 1) := by decide +kernel
theorem dX7_getOutOfBed_38 : decode cX7_getOutOfBed 38 = .ok (.aload_n 0, 1) := by decide +kernel
theorem dX7_getOutOfBed_39 : decode cX7_getOutOfBed 39 = .ok (.getfield 25, 3) := by decide +kernel
theorem dX7_getOutOfBed_42 : decode cX7_getOutOfBed 42 = .ok (.getfield 142, 3) := by decide +kernel
theorem dX7_getOutOfBed_45 : decode cX7_getOutOfBed 45 = .ok (.iload_n 1, 1) := by decide +kernel
theorem dX7_getOutOfBed_46 : decode cX7_getOutOfBed 46 = .ok (.iaload, 1) := by decide +kernel
theorem dX7_getOutOfBed_47 : decode cX7_getOutOfBed 47 = .ok (.ireturn, 1) := by decide +kernel
theorem dX7_advanceCrumbs_0 : decode cX7_advanceCrumbs 0 = .ok (.aload_n 0, 1) := by decide +kernel
theorem dX7_advanceCrumbs_1 : decode cX7_advanceCrumbs 1 = .ok (.getfield 25, 3) := by decide +kernel
theorem dX7_advanceCrumbs_4 : decode cX7_advanceCrumbs 4 = .ok (.iload_n 1, 1) := by decide +kernel
theorem dX7_advanceCrumbs_5 : decode cX7_advanceCrumbs 5 = .ok (.invokevirtual 163, 3) := by decide +kernel
theorem dX7_advanceCrumbs_8 : decode cX7_advanceCrumbs 8 = .ok (.ifCond .ne 5, 3) := by decide +kernel
theorem dX7_advanceCrumbs_11 : decode cX7_advanceCrumbs 11 = .ok (.iconst (-1), 1) := by decide +kernel
theorem dX7_advanceCrumbs_12 : decode cX7_advanceCrumbs 12 = .ok (.ireturn, 1) := by decide +kernel
theorem dX7_advanceCrumbs_13 : decode cX7_advanceCrumbs 13 = .ok (.iload_n 2, 1) := by decide +kernel
theorem dX7_advanceCrumbs_14 : decode cX7_advanceCrumbs 14 = .ok (.iconst 1, 1) := by decide +kernel
theorem dX7_advanceCrumbs_15 : decode cX7_advanceCrumbs 15 = .ok (.if_icmp .lt 9, 3) := by decide +kernel
theorem dX7_advanceCrumbs_18 : decode cX7_advanceCrumbs 18 = .ok (.iload_n 2, 1) := by decide +kernel
theorem dX7_advanceCrumbs_19 : decode cX7_advanceCrumbs 19 = .ok (.bipush 99, 2) := by decide +kernel
theorem dX7_advanceCrumbs_21 : decode cX7_advanceCrumbs 21 = .ok (.if_icmp .le 6, 3) := by decide +kernel
theorem dX7_advanceCrumbs_24 : decode cX7_advanceCrumbs 24 = .ok (.bipush (-2), 2) := by decide +kernel
theorem dX7_advanceCrumbs_26 : decode cX7_advanceCrumbs 26 = .ok (.ireturn, 1) := by decide +kernel
theorem dX7_advanceCrumbs_27 : decode cX7_advanceCrumbs 27 = .ok (.aload_n 0, 1) := by decide +kernel
theorem dX7_advanceCrumbs_28 : decode cX7_advanceCrumbs 28 = .ok (.getfield 25, 3) := by decide +kernel
theorem dX7_advanceCrumbs_31 : decode cX7_advanceCrumbs 31 = .ok (.getfield 139, 3) := by decide +kernel
theorem dX7_advanceCrumbs_34 : decode cX7_advanceCrumbs 34 = .ok (.iload_n 1, 1) := by decide +kernel
theorem dX7_advanceCrumbs_35 : decode cX7_advanceCrumbs 35 = .ok (.iaload, 1) := by decide +kernel
theorem dX7_advanceCrumbs_36 : decode cX7_advanceCrumbs 36 = .ok (.iload_n 2, 1) := by decide +kernel
theorem dX7_advanceCrumbs_37 : decode cX7_advanceCrumbs 37 = .ok (.iadd, 1) := by decide +kernel
theorem dX7_advanceCrumbs_38 : decode cX7_advanceCrumbs 38 = .ok (.istore_n 3, 1) := by decide +kernel
theorem dX7_advanceCrumbs_39 : decode cX7_advanceCrumbs 39 = .ok (.aload_n 0, 1) := by decide +kernel
theorem dX7_advanceCrumbs_40 : decode cX7_advanceCrumbs 40 = .ok (.getfield 40, 3) := by decide +kernel
theorem dX7_advanceCrumbs_43 : decode cX7_advanceCrumbs 43 = .ok (.iload_n 2, 1) := by decide +kernel
theorem dX7_advanceCrumbs_44 : decode cX7_advanceCrumbs 44 = .ok (.if_icmp .lt 10, 3) := by decide +kernel
theorem dX7_advanceCrumbs_47 : decode cX7_advanceCrumbs 47 = .ok (.iload_n 3, 1) := by decide +kernel
theorem dX7_advanceCrumbs_48 : decode cX7_advanceCrumbs 48 = .ok (.sipush 200, 3) := by decide +kernel
theorem dX7_advanceCrumbs_51 : decode cX7_advanceCrumbs 51 = .ok (.if_icmp .le 6, 3) := by decide +kernel
theorem dX7_advanceCrumbs_54 : decode cX7_advanceCrumbs 54 = .ok (.bipush (-4), 2) := by decide +kernel
theorem dX7_advanceCrumbs_56 : decode cX7_advanceCrumbs 56 = .ok (.ireturn, 1) := by decide +kernel
theorem dX7_advanceCrumbs_57 : decode cX7_advanceCrumbs 57 = .ok (.aload_n 0, 1) := by decide +kernel
theorem dX7_advanceCrumbs_58 : decode cX7_advanceCrumbs 58 = .ok (.dup, 1) := by decide +kernel
theorem dX7_advanceCrumbs_59 : decode cX7_advanceCrumbs 59 = .ok (.getfield 40, 3) := by decide +kernel
theorem dX7_advanceCrumbs_62 : decode cX7_advanceCrumbs 62 = .ok (.iload_n 2, 1) := by decide +kernel
theorem dX7_advanceCrumbs_63 : decode cX7_advanceCrumbs 63 = .ok (.isub, 1) := by decide +kernel
theorem dX7_advanceCrumbs_64 : decode cX7_advanceCrumbs 64 = .ok (.putfield 40, 3) := by decide +kernel
theorem dX7_advanceCrumbs_67 : decode cX7_advanceCrumbs 67 = .ok (.aload_n 0, 1) := by decide +kernel
theorem dX7_advanceCrumbs_68 : decode cX7_advanceCrumbs 68 = .ok (.getfield 25, 3) := by decide +kernel
theorem dX7_advanceCrumbs_71 : decode cX7_advanceCrumbs 71 = .ok (.getfield 136, 3) := by decide +kernel
theorem dX7_advanceCrumbs_74 : decode cX7_advanceCrumbs 74 = .ok (.iload_n 1, 1) := by decide +kernel
theorem dX7_advanceCrumbs_75 : decode cX7_advanceCrumbs 75 = .ok (.dup2, 1) := by decide +kernel
theorem dX7_advanceCrumbs_76 : decode cX7_advanceCrumbs 76 = .ok (.iaload, 1) := by decide +kernel
theorem dX7_advanceCrumbs_77 : decode cX7_advanceCrumbs 77 = .ok (.iload_n 2, 1) := by decide +kernel
theorem dX7_advanceCrumbs_78 : decode cX7_advanceCrumbs 78 = .ok (.iadd, 1) := by decide +kernel
theorem dX7_advanceCrumbs_79 : decode cX7_advanceCrumbs 79 = .ok (.iastore, 1) := by decide +kernel
theorem dX7_advanceCrumbs_80 : decode cX7_advanceCrumbs 80 = .ok (.aload_n 0, 1) := by decide +kernel
theorem dX7_advanceCrumbs_81 : decode cX7_advanceCrumbs 81 = .ok (.getfield 25, 3) := by decide +kernel
theorem dX7_advanceCrumbs_84 : decode cX7_advanceCrumbs 84 = .ok (.getfield 139, 3) := by decide +kernel
theorem dX7_advanceCrumbs_87 : decode cX7_advanceCrumbs 87 = .ok (.iload_n 1, 1) := by decide +kernel
theorem dX7_advanceCrumbs_88 : decode cX7_advanceCrumbs 88 = .ok (.iload_n 3, 1) := by decide +kernel
theorem dX7_advanceCrumbs_89 : decode cX7_advanceCrumbs 89 = .ok (.iastore, 1) := by decide +kernel
theorem dX7_advanceCrumbs_90 : decode cX7_advanceCrumbs 90 = .ok (.iload_n 3, 1) := by decide +kernel
theorem dX7_advanceCrumbs_91 : decode cX7_advanceCrumbs 91 = .ok (.ireturn, 1) := by decide +kernel
theorem dX7_takeCrumbsIn_0 : decode cX7_takeCrumbsIn 0 = .ok (.iload_n 1, 1) := by decide +kernel
theorem dX7_takeCrumbsIn_1 : decode cX7_takeCrumbsIn 1 = .ok (.iconst 1, 1) := by decide +kernel
theorem dX7_takeCrumbsIn_2 : decode cX7_takeCrumbsIn 2 = .ok (.if_icmp .lt 10, 3) := by decide +kernel
theorem dX7_takeCrumbsIn_5 : decode cX7_takeCrumbsIn 5 = .ok (.iload_n 1, 1) := by decide +kernel
theorem dX7_takeCrumbsIn_6 : decode cX7_takeCrumbsIn 6 = .ok (.sipush 999, 3) := by decide +kernel
theorem dX7_takeCrumbsIn_9 : decode cX7_takeCrumbsIn 9 = .ok (.if_icmp .le 6, 3) := by decide +kernel
theorem dX7_takeCrumbsIn_12 : decode cX7_takeCrumbsIn 12 = .ok (.bipush (-2), 2) := by decide +kernel
theorem dX7_takeCrumbsIn_14 : decode cX7_takeCrumbsIn 14 = .ok (.ireturn, 1) := by decide +kernel
theorem dX7_takeCrumbsIn_15 : decode cX7_takeCrumbsIn 15 = .ok (.aload_n 0, 1) := by decide +kernel
theorem dX7_takeCrumbsIn_16 : decode cX7_takeCrumbsIn 16 = .ok (.dup, 1) := by decide +kernel
theorem dX7_takeCrumbsIn_17 : decode cX7_takeCrumbsIn 17 = .ok (.getfield 40, 3) := by decide +kernel
theorem dX7_takeCrumbsIn_20 : decode cX7_takeCrumbsIn 20 = .ok (.iload_n 1, 1) := by decide +kernel
theorem dX7_takeCrumbsIn_21 : decode cX7_takeCrumbsIn 21 = .ok (.iadd, 1) := by decide +kernel
theorem dX7_takeCrumbsIn_22 : decode cX7_takeCrumbsIn 22 = .ok (.putfield 40, 3) := by decide +kernel
theorem dX7_takeCrumbsIn_25 : decode cX7_takeCrumbsIn 25 = .ok (.aload_n 0, 1) := by decide +kernel
theorem dX7_takeCrumbsIn_26 : decode cX7_takeCrumbsIn 26 = .ok (.dup, 1) := by decide +kernel
theorem dX7_takeCrumbsIn_27 : decode cX7_takeCrumbsIn 27 = .ok (.getfield 43, 3) := by decide +kernel
theorem dX7_takeCrumbsIn_30 : decode cX7_takeCrumbsIn 30 = .ok (.iload_n 1, 1) := by decide +kernel
theorem dX7_takeCrumbsIn_31 : decode cX7_takeCrumbsIn 31 = .ok (.iadd, 1) := by decide +kernel
theorem dX7_takeCrumbsIn_32 : decode cX7_takeCrumbsIn 32 = .ok (.putfield 43, 3) := by decide +kernel
theorem dX7_takeCrumbsIn_35 : decode cX7_takeCrumbsIn 35 = .ok (.aload_n 0, 1) := by decide +kernel
theorem dX7_takeCrumbsIn_36 : decode cX7_takeCrumbsIn 36 = .ok (.getfield 40, 3) := by decide +kernel
theorem dX7_takeCrumbsIn_39 : decode cX7_takeCrumbsIn 39 = .ok (.ireturn, 1) := by decide +kernel
theorem dX7_giveCrumbsOut_0 : decode cX7_giveCrumbsOut 0 = .ok (.iload_n 1, 1) := by decide +kernel
theorem dX7_giveCrumbsOut_1 : decode cX7_giveCrumbsOut 1 = .ok (.iconst 1, 1) := by decide +kernel
theorem dX7_giveCrumbsOut_2 : decode cX7_giveCrumbsOut 2 = .ok (.if_icmp .lt 10, 3) := by decide +kernel
theorem dX7_giveCrumbsOut_5 : decode cX7_giveCrumbsOut 5 = .ok (.iload_n 1, 1) := by decide +kernel
theorem dX7_giveCrumbsOut_6 : decode cX7_giveCrumbsOut 6 = .ok (.sipush 999, 3) := by decide +kernel
theorem dX7_giveCrumbsOut_9 : decode cX7_giveCrumbsOut 9 = .ok (.if_icmp .le 6, 3) := by decide +kernel
theorem dX7_giveCrumbsOut_12 : decode cX7_giveCrumbsOut 12 = .ok (.bipush (-2), 2) := by decide +kernel
theorem dX7_giveCrumbsOut_14 : decode cX7_giveCrumbsOut 14 = .ok (.ireturn, 1) := by decide +kernel
theorem dX7_giveCrumbsOut_15 : decode cX7_giveCrumbsOut 15 = .ok (.aload_n 0, 1) := by decide +kernel
theorem dX7_giveCrumbsOut_16 : decode cX7_giveCrumbsOut 16 = .ok (.getfield 40, 3) := by decide +kernel
theorem dX7_giveCrumbsOut_19 : decode cX7_giveCrumbsOut 19 = .ok (.iload_n 1, 1) := by decide +kernel
theorem dX7_giveCrumbsOut_20 : decode cX7_giveCrumbsOut 20 = .ok (.if_icmp .ge 6, 3) := by decide +kernel
theorem dX7_giveCrumbsOut_23 : decode cX7_giveCrumbsOut 23 = .ok (.bipush (-4), 2) := by decide +kernel
theorem dX7_giveCrumbsOut_25 : decode cX7_giveCrumbsOut 25 = .ok (.ireturn, 1) := by decide +kernel
theorem dX7_giveCrumbsOut_26 : decode cX7_giveCrumbsOut 26 = .ok (.aload_n 0, 1) := by decide +kernel
theorem dX7_giveCrumbsOut_27 : decode cX7_giveCrumbsOut 27 = .ok (.dup, 1) := by decide +kernel
theorem dX7_giveCrumbsOut_28 : decode cX7_giveCrumbsOut 28 = .ok (.getfield 40, 3) := by decide +kernel
theorem dX7_giveCrumbsOut_31 : decode cX7_giveCrumbsOut 31 = .ok (.iload_n 1, 1) := by decide +kernel
theorem dX7_giveCrumbsOut_32 : decode cX7_giveCrumbsOut 32 = .ok (.isub, 1) := by decide +kernel
theorem dX7_giveCrumbsOut_33 : decode cX7_giveCrumbsOut 33 = .ok (.putfield 40, 3) := by decide +kernel
theorem dX7_giveCrumbsOut_36 : decode cX7_giveCrumbsOut 36 = .ok (.aload_n 0, 1) := by decide +kernel
theorem dX7_giveCrumbsOut_37 : decode cX7_giveCrumbsOut 37 = .ok (.dup, 1) := by decide +kernel
theorem dX7_giveCrumbsOut_38 : decode cX7_giveCrumbsOut 38 = .ok (.getfield 46, 3) := by decide +kernel
theorem dX7_giveCrumbsOut_41 : decode cX7_giveCrumbsOut 41 = .ok (.iload_n 1, 1) := by decide +kernel
theorem dX7_giveCrumbsOut_42 : decode cX7_giveCrumbsOut 42 = .ok (.iadd, 1) := by decide +kernel
theorem dX7_giveCrumbsOut_43 : decode cX7_giveCrumbsOut 43 = .ok (.putfield 46, 3) := by decide +kernel
theorem dX7_giveCrumbsOut_46 : decode cX7_giveCrumbsOut 46 = .ok (.aload_n 0, 1) := by decide +kernel
theorem dX7_giveCrumbsOut_47 : decode cX7_giveCrumbsOut 47 = .ok (.getfield 40, 3) := by decide +kernel
theorem dX7_giveCrumbsOut_50 : decode cX7_giveCrumbsOut 50 = .ok (.ireturn, 1) := by decide +kernel
theorem dX7_letNightsPass_0 : decode cX7_letNightsPass 0 = .ok (.iload_n 1, 1) := by decide +kernel
theorem dX7_letNightsPass_1 : decode cX7_letNightsPass 1 = .ok (.iconst 1, 1) := by decide +kernel
theorem dX7_letNightsPass_2 : decode cX7_letNightsPass 2 = .ok (.if_icmp .lt 9, 3) := by decide +kernel
theorem dX7_letNightsPass_5 : decode cX7_letNightsPass 5 = .ok (.iload_n 1, 1) := by decide +kernel
theorem dX7_letNightsPass_6 : decode cX7_letNightsPass 6 = .ok (.bipush 60, 2) := by decide +kernel
theorem dX7_letNightsPass_8 : decode cX7_letNightsPass 8 = .ok (.if_icmp .le 6, 3) := by decide +kernel
theorem dX7_letNightsPass_11 : decode cX7_letNightsPass 11 = .ok (.bipush (-2), 2) := by decide +kernel
theorem dX7_letNightsPass_13 : decode cX7_letNightsPass 13 = .ok (.ireturn, 1) := by decide +kernel
theorem dX7_letNightsPass_14 : decode cX7_letNightsPass 14 = .ok (.aload_n 0, 1) := by decide +kernel
theorem dX7_letNightsPass_15 : decode cX7_letNightsPass 15 = .ok (.getfield 49, 3) := by decide +kernel
theorem dX7_letNightsPass_18 : decode cX7_letNightsPass 18 = .ok (.istore_n 2, 1) := by decide +kernel
theorem dX7_letNightsPass_19 : decode cX7_letNightsPass 19 = .ok (.iconst 0, 1) := by decide +kernel
theorem dX7_letNightsPass_20 : decode cX7_letNightsPass 20 = .ok (.istore_n 3, 1) := by decide +kernel
theorem dX7_letNightsPass_21 : decode cX7_letNightsPass 21 = .ok (.iload_n 3, 1) := by decide +kernel
theorem dX7_letNightsPass_22 : decode cX7_letNightsPass 22 = .ok (.iload_n 1, 1) := by decide +kernel
theorem dX7_letNightsPass_23 : decode cX7_letNightsPass 23 = .ok (.if_icmp .ge 13, 3) := by decide +kernel
theorem dX7_letNightsPass_26 : decode cX7_letNightsPass 26 = .ok (.aload_n 0, 1) := by decide +kernel
theorem dX7_letNightsPass_27 : decode cX7_letNightsPass 27 = .ok (.invokevirtual 201, 3) := by decide +kernel
theorem dX7_letNightsPass_30 : decode cX7_letNightsPass 30 = .ok (.iinc 3 1, 3) := by decide +kernel
theorem dX7_letNightsPass_33 : decode cX7_letNightsPass 33 = .ok (.goto (-12), 3) := by decide +kernel
theorem dX7_letNightsPass_36 : decode cX7_letNightsPass 36 = .ok (.aload_n 0, 1) := by decide +kernel
theorem dX7_letNightsPass_37 : decode cX7_letNightsPass 37 = .ok (.getfield 49, 3) := by decide +kernel
theorem dX7_letNightsPass_40 : decode cX7_letNightsPass 40 = .ok (.iload_n 2, 1) := by decide +kernel
theorem dX7_letNightsPass_41 : decode cX7_letNightsPass 41 = .ok (.isub, 1) := by decide +kernel
theorem dX7_letNightsPass_42 : decode cX7_letNightsPass 42 = .ok (.ireturn, 1) := by decide +kernel
theorem dX7_passOneNight_0 : decode cX7_passOneNight 0 = .ok (.aload_n 0, 1) := by decide +kernel
theorem dX7_passOneNight_1 : decode cX7_passOneNight 1 = .ok (.dup, 1) := by decide +kernel
theorem dX7_passOneNight_2 : decode cX7_passOneNight 2 = .ok (.getfield 36, 3) := by decide +kernel
theorem dX7_passOneNight_5 : decode cX7_passOneNight 5 = .ok (.iconst 1, 1) := by decide +kernel
theorem dX7_passOneNight_6 : decode cX7_passOneNight 6 = .ok (.iadd, 1) := by decide +kernel
theorem dX7_passOneNight_7 : decode cX7_passOneNight 7 = .ok (.putfield 36, 3) := by decide +kernel
theorem dX7_passOneNight_10 : decode cX7_passOneNight 10 = .ok (.iconst 0, 1) := by decide +kernel
theorem dX7_passOneNight_11 : decode cX7_passOneNight 11 = .ok (.istore_n 1, 1) := by decide +kernel
theorem dX7_passOneNight_12 : decode cX7_passOneNight 12 = .ok (.iload_n 1, 1) := by decide +kernel
theorem dX7_passOneNight_13 : decode cX7_passOneNight 13 = .ok (.bipush 6, 2) := by decide +kernel
theorem dX7_passOneNight_15 : decode cX7_passOneNight 15 = .ok (.if_icmp .ge 28, 3) := by decide +kernel
theorem dX7_passOneNight_18 : decode cX7_passOneNight 18 = .ok (.aload_n 0, 1) := by decide +kernel
theorem dX7_passOneNight_19 : decode cX7_passOneNight 19 = .ok (.getfield 9, 3) := by decide +kernel
theorem dX7_passOneNight_22 : decode cX7_passOneNight 22 = .ok (.iload_n 1, 1) := by decide +kernel
theorem dX7_passOneNight_23 : decode cX7_passOneNight 23 = .ok (.aload_n 0, 1) := by decide +kernel
theorem dX7_passOneNight_24 : decode cX7_passOneNight 24 = .ok (.getfield 9, 3) := by decide +kernel
theorem dX7_passOneNight_27 : decode cX7_passOneNight 27 = .ok (.iload_n 1, 1) := by decide +kernel
theorem dX7_passOneNight_28 : decode cX7_passOneNight 28 = .ok (.iaload, 1) := by decide +kernel
theorem dX7_passOneNight_29 : decode cX7_passOneNight 29 = .ok (.iconst 3, 1) := by decide +kernel
theorem dX7_passOneNight_30 : decode cX7_passOneNight 30 = .ok (.iadd, 1) := by decide +kernel
theorem dX7_passOneNight_31 : decode cX7_passOneNight 31 = .ok (.bipush 99, 2) := by decide +kernel
theorem dX7_passOneNight_33 : decode cX7_passOneNight 33 = .ok (.invokestatic 189, 3) := by decide +kernel
theorem dX7_passOneNight_36 : decode cX7_passOneNight 36 = .ok (.iastore, 1) := by decide +kernel
theorem dX7_passOneNight_37 : decode cX7_passOneNight 37 = .ok (.iinc 1 1, 3) := by decide +kernel
theorem dX7_passOneNight_40 : decode cX7_passOneNight 40 = .ok (.goto (-28), 3) := by decide +kernel
theorem dX7_passOneNight_43 : decode cX7_passOneNight 43 = .ok (.iconst 0, 1) := by decide +kernel
theorem dX7_passOneNight_44 : decode cX7_passOneNight 44 = .ok (.istore_n 1, 1) := by decide +kernel
theorem dX7_passOneNight_45 : decode cX7_passOneNight 45 = .ok (.iload_n 1, 1) := by decide +kernel
theorem dX7_passOneNight_46 : decode cX7_passOneNight 46 = .ok (.aload_n 0, 1) := by decide +kernel
theorem dX7_passOneNight_47 : decode cX7_passOneNight 47 = .ok (.getfield 25, 3) := by decide +kernel
theorem dX7_passOneNight_50 : decode cX7_passOneNight 50 = .ok (.getfield 130, 3) := by decide +kernel
theorem dX7_passOneNight_53 : decode cX7_passOneNight 53 = .ok (.if_icmp .ge 52, 3) := by decide +kernel
theorem dX7_passOneNight_56 : decode cX7_passOneNight 56 = .ok (.aload_n 0, 1) := by decide +kernel
theorem dX7_passOneNight_57 : decode cX7_passOneNight 57 = .ok (.getfield 25, 3) := by decide +kernel
theorem dX7_passOneNight_60 : decode cX7_passOneNight 60 = .ok (.getfield 145, 3) := by decide +kernel
theorem dX7_passOneNight_63 : decode cX7_passOneNight 63 = .ok (.iload_n 1, 1) := by decide +kernel
theorem dX7_passOneNight_64 : decode cX7_passOneNight 64 = .ok (.baload, 1) := by decide +kernel
theorem dX7_passOneNight_65 : decode cX7_passOneNight 65 = .ok (.ifCond .eq 19, 3) := by decide +kernel
theorem dX7_passOneNight_68 : decode cX7_passOneNight 68 = .ok (.aload_n 0, 1) := by decide +kernel
theorem dX7_passOneNight_69 : decode cX7_passOneNight 69 = .ok (.getfield 25, 3) := by decide +kernel
theorem dX7_passOneNight_72 : decode cX7_passOneNight 72 = .ok (.getfield 142, 3) := by decide +kernel
theorem dX7_passOneNight_75 : decode cX7_passOneNight 75 = .ok (.iload_n 1, 1) := by decide +kernel
theorem dX7_passOneNight_76 : decode cX7_passOneNight 76 = .ok (.dup2, 1) := by decide +kernel
theorem dX7_passOneNight_77 : decode cX7_passOneNight 77 = .ok (.iaload, 1) := by decide +kernel
theorem dX7_passOneNight_78 : decode cX7_passOneNight 78 = .ok (.iconst 1, 1) := by decide +kernel
theorem dX7_passOneNight_79 : decode cX7_passOneNight 79 = .ok (.iadd, 1) := by decide +kernel
theorem dX7_passOneNight_80 : decode cX7_passOneNight 80 = .ok (.iastore, 1) := by decide +kernel
theorem dX7_passOneNight_81 : decode cX7_passOneNight 81 = .ok (.goto 18, 3) := by decide +kernel
theorem dX7_passOneNight_84 : decode cX7_passOneNight 84 = .ok (.aload_n 0, 1) := by decide +kernel
theorem dX7_passOneNight_85 : decode cX7_passOneNight 85 = .ok (.getfield 25, 3) := by decide +kernel
theorem dX7_passOneNight_88 : decode cX7_passOneNight 88 = .ok (.getfield 142, 3) := by decide +kernel
theorem dX7_passOneNight_91 : decode cX7_passOneNight 91 = .ok (.iload_n 1, 1) := by decide +kernel
theorem dX7_passOneNight_92 : decode cX7_passOneNight 92 = .ok (.iconst 0, 1) := by decide +kernel
theorem dX7_passOneNight_93 : decode cX7_passOneNight 93 = .ok (.iastore, 1) := by decide +kernel
theorem dX7_passOneNight_94 : decode cX7_passOneNight 94 = .ok (.aload_n 0, 1) := by decide +kernel
theorem dX7_passOneNight_95 : decode cX7_passOneNight 95 = .ok (.iload_n 1, 1) := by decide +kernel
theorem dX7_passOneNight_96 : decode cX7_passOneNight 96 = .ok (.invokevirtual 204, 3) := by decide +kernel
theorem dX7_passOneNight_99 : decode cX7_passOneNight 99 = .ok (.iinc 1 1, 3) := by decide +kernel
theorem dX7_passOneNight_102 : decode cX7_passOneNight 102 = .ok (.goto (-57), 3) := by decide +kernel
theorem dX7_passOneNight_105 : decode cX7_passOneNight 105 = .ok (.aload_n 0, 1) := by decide +kernel
theorem dX7_passOneNight_106 : decode cX7_passOneNight 106 = .ok (.invokevirtual 207, 3) := by decide +kernel
theorem dX7_passOneNight_109 : decode cX7_passOneNight 109 = .ok (.aload_n 0, 1) := by decide +kernel
theorem dX7_passOneNight_110 : decode cX7_passOneNight 110 = .ok (.getfield 36, 3) := by decide +kernel
theorem dX7_passOneNight_113 : decode cX7_passOneNight 113 = .ok (.bipush 7, 2) := by decide +kernel
theorem dX7_passOneNight_115 : decode cX7_passOneNight 115 = .ok (.irem, 1) := by decide +kernel
theorem dX7_passOneNight_116 : decode cX7_passOneNight 116 = .ok (.ifCond .ne 7, 3) := by decide +kernel
theorem dX7_passOneNight_119 : decode cX7_passOneNight 119 = .ok (.aload_n 0, 1) := by decide +kernel
theorem dX7_passOneNight_120 : decode cX7_passOneNight 120 = .ok (.invokevirtual 210, 3) := by decide +kernel
theorem dX7_passOneNight_123 : decode cX7_passOneNight 123 = .ok (.return_, 1) := by decide +kernel
theorem dX7_rankByDust_0 : decode cX7_rankByDust 0 = .ok (.iconst 0, 1) := by decide +kernel
theorem dX7_rankByDust_1 : decode cX7_rankByDust 1 = .ok (.istore_n 2, 1) := by decide +kernel
theorem dX7_rankByDust_2 : decode cX7_rankByDust 2 = .ok (.iconst 0, 1) := by decide +kernel
theorem dX7_rankByDust_3 : decode cX7_rankByDust 3 = .ok (.istore_n 3, 1) := by decide +kernel
theorem dX7_rankByDust_4 : decode cX7_rankByDust 4 = .ok (.iload_n 3, 1) := by decide +kernel
theorem dX7_rankByDust_5 : decode cX7_rankByDust 5 = .ok (.bipush 6, 2) := by decide +kernel
theorem dX7_rankByDust_7 : decode cX7_rankByDust 7 = .ok (.if_icmp .ge 42, 3) := by decide +kernel
theorem dX7_rankByDust_10 : decode cX7_rankByDust 10 = .ok (.aload_n 0, 1) := by decide +kernel
theorem dX7_rankByDust_11 : decode cX7_rankByDust 11 = .ok (.getfield 9, 3) := by decide +kernel
theorem dX7_rankByDust_14 : decode cX7_rankByDust 14 = .ok (.iload_n 3, 1) := by decide +kernel
theorem dX7_rankByDust_15 : decode cX7_rankByDust 15 = .ok (.iaload, 1) := by decide +kernel
theorem dX7_rankByDust_16 : decode cX7_rankByDust 16 = .ok (.aload_n 0, 1) := by decide +kernel
theorem dX7_rankByDust_17 : decode cX7_rankByDust 17 = .ok (.getfield 9, 3) := by decide +kernel
theorem dX7_rankByDust_20 : decode cX7_rankByDust 20 = .ok (.iload_n 1, 1) := by decide +kernel
theorem dX7_rankByDust_21 : decode cX7_rankByDust 21 = .ok (.iaload, 1) := by decide +kernel
theorem dX7_rankByDust_22 : decode cX7_rankByDust 22 = .ok (.isub, 1) := by decide +kernel
theorem dX7_rankByDust_23 : decode cX7_rankByDust 23 = .ok (.istore 4, 2) := by decide +kernel
theorem dX7_rankByDust_25 : decode cX7_rankByDust 25 = .ok (.iload 4, 2) := by decide +kernel
theorem dX7_rankByDust_27 : decode cX7_rankByDust 27 = .ok (.ifCond .gt 13, 3) := by decide +kernel
theorem dX7_rankByDust_30 : decode cX7_rankByDust 30 = .ok (.iload 4, 2) := by decide +kernel
theorem dX7_rankByDust_32 : decode cX7_rankByDust 32 = .ok (.ifCond .ne 11, 3) := by decide +kernel
theorem dX7_rankByDust_35 : decode cX7_rankByDust 35 = .ok (.iload_n 3, 1) := by decide +kernel
theorem dX7_rankByDust_36 : decode cX7_rankByDust 36 = .ok (.iload_n 1, 1) := by decide +kernel
theorem dX7_rankByDust_37 : decode cX7_rankByDust 37 = .ok (.if_icmp .ge 6, 3) := by decide +kernel
theorem dX7_rankByDust_40 : decode cX7_rankByDust 40 = .ok (.iinc 2 1, 3) := by decide +kernel
theorem dX7_rankByDust_43 : decode cX7_rankByDust 43 = .ok (.iinc 3 1, 3) := by decide +kernel
theorem dX7_rankByDust_46 : decode cX7_rankByDust 46 = .ok (.goto (-42), 3) := by decide +kernel
theorem dX7_rankByDust_49 : decode cX7_rankByDust 49 = .ok (.iload_n 2, 1) := by decide +kernel
theorem dX7_rankByDust_50 : decode cX7_rankByDust 50 = .ok (.ireturn, 1) := by decide +kernel
theorem dX7_energyOf_0 : decode cX7_energyOf 0 = .ok (.aload_n 0, 1) := by decide +kernel
theorem dX7_energyOf_1 : decode cX7_energyOf 1 = .ok (.getfield 25, 3) := by decide +kernel
theorem dX7_energyOf_4 : decode cX7_energyOf 4 = .ok (.getfield 133, 3) := by decide +kernel
theorem dX7_energyOf_7 : decode cX7_energyOf 7 = .ok (.iload_n 1, 1) := by decide +kernel
theorem dX7_energyOf_8 : decode cX7_energyOf 8 = .ok (.iaload, 1) := by decide +kernel
theorem dX7_energyOf_9 : decode cX7_energyOf 9 = .ok (.aload_n 0, 1) := by decide +kernel
theorem dX7_energyOf_10 : decode cX7_energyOf 10 = .ok (.getfield 18, 3) := by decide +kernel
theorem dX7_energyOf_13 : decode cX7_energyOf 13 = .ok (.invokevirtual 160, 3) := by decide +kernel
theorem dX7_energyOf_16 : decode cX7_energyOf 16 = .ok (.iconst 1, 1) := by decide +kernel
theorem dX7_energyOf_17 : decode cX7_energyOf 17 = .ok (.iadd, 1) := by decide +kernel
theorem dX7_energyOf_18 : decode cX7_energyOf 18 = .ok (.imul, 1) := by decide +kernel
theorem dX7_energyOf_19 : decode cX7_energyOf 19 = .ok (.ireturn, 1) := by decide +kernel
theorem dX7_work_0 : decode cX7_work 0 = .ok (.aload_n 0, 1) := by decide +kernel
theorem dX7_work_1 : decode cX7_work 1 = .ok (.iload_n 1, 1) := by decide +kernel
theorem dX7_work_2 : decode cX7_work 2 = .ok (.invokevirtual 213, 3) := by decide +kernel
theorem dX7_work_5 : decode cX7_work 5 = .ok (.istore_n 2, 1) := by decide +kernel
theorem dX7_work_6 : decode cX7_work 6 = .ok (.iconst 0, 1) := by decide +kernel
theorem dX7_work_7 : decode cX7_work 7 = .ok (.istore_n 3, 1) := by decide +kernel
theorem dX7_work_8 : decode cX7_work 8 = .ok (.iload_n 3, 1) := by decide +kernel
theorem dX7_work_9 : decode cX7_work 9 = .ok (.bipush 8, 2) := by decide +kernel
theorem dX7_work_11 : decode cX7_work 11 = .ok (.if_icmp .ge 132, 3) := by decide +kernel
theorem dX7_work_14 : decode cX7_work 14 = .ok (.aload_n 0, 1) := by decide +kernel
theorem dX7_work_15 : decode cX7_work 15 = .ok (.getfield 32, 3) := by decide +kernel
theorem dX7_work_18 : decode cX7_work 18 = .ok (.iload_n 1, 1) := by decide +kernel
theorem dX7_work_19 : decode cX7_work 19 = .ok (.invokevirtual 216, 3) := by decide +kernel
theorem dX7_work_22 : decode cX7_work 22 = .ok (.istore 4, 2) := by decide +kernel
theorem dX7_work_24 : decode cX7_work 24 = .ok (.iload 4, 2) := by decide +kernel
theorem dX7_work_26 : decode cX7_work 26 = .ok (.iconst (-1), 1) := by decide +kernel
theorem dX7_work_27 : decode cX7_work 27 = .ok (.if_icmp .eq 17, 3) := by decide +kernel
theorem dX7_work_30 : decode cX7_work 30 = .ok (.aload_n 0, 1) := by decide +kernel
theorem dX7_work_31 : decode cX7_work 31 = .ok (.getfield 32, 3) := by decide +kernel
theorem dX7_work_34 : decode cX7_work 34 = .ok (.getfield 183, 3) := by decide +kernel
theorem dX7_work_37 : decode cX7_work 37 = .ok (.iload 4, 2) := by decide +kernel
theorem dX7_work_39 : decode cX7_work 39 = .ok (.iaload, 1) := by decide +kernel
theorem dX7_work_40 : decode cX7_work 40 = .ok (.iload_n 2, 1) := by decide +kernel
theorem dX7_work_41 : decode cX7_work 41 = .ok (.if_icmp .le 4, 3) := by decide +kernel
theorem dX7_work_44 : decode cX7_work 44 = .ok (.return_, 1) := by decide +kernel
theorem dX7_work_45 : decode cX7_work 45 = .ok (.iload_n 2, 1) := by decide +kernel
theorem dX7_work_46 : decode cX7_work 46 = .ok (.aload_n 0, 1) := by decide +kernel
theorem dX7_work_47 : decode cX7_work 47 = .ok (.getfield 32, 3) := by decide +kernel
theorem dX7_work_50 : decode cX7_work 50 = .ok (.getfield 183, 3) := by decide +kernel
theorem dX7_work_53 : decode cX7_work 53 = .ok (.iload 4, 2) := by decide +kernel
theorem dX7_work_55 : decode cX7_work 55 = .ok (.iaload, 1) := by decide +kernel
theorem dX7_work_56 : decode cX7_work 56 = .ok (.isub, 1) := by decide +kernel
theorem dX7_work_57 : decode cX7_work 57 = .ok (.istore_n 2, 1) := by decide +kernel
theorem dX7_work_58 : decode cX7_work 58 = .ok (.aload_n 0, 1) := by decide +kernel
theorem dX7_work_59 : decode cX7_work 59 = .ok (.getfield 32, 3) := by decide +kernel
theorem dX7_work_62 : decode cX7_work 62 = .ok (.getfield 177, 3) := by decide +kernel
theorem dX7_work_65 : decode cX7_work 65 = .ok (.iload 4, 2) := by decide +kernel
theorem dX7_work_67 : decode cX7_work 67 = .ok (.iaload, 1) := by decide +kernel
theorem dX7_work_68 : decode cX7_work 68 = .ok (.istore 5, 2) := by decide +kernel
theorem dX7_work_70 : decode cX7_work 70 = .ok (.bipush 10, 2) := by decide +kernel
theorem dX7_work_72 : decode cX7_work 72 = .ok (.aload_n 0, 1) := by decide +kernel
theorem dX7_work_73 : decode cX7_work 73 = .ok (.getfield 18, 3) := by decide +kernel
theorem dX7_work_76 : decode cX7_work 76 = .ok (.invokevirtual 219, 3) := by decide +kernel
theorem dX7_work_79 : decode cX7_work 79 = .ok (.iadd, 1) := by decide +kernel
theorem dX7_work_80 : decode cX7_work 80 = .ok (.istore 6, 2) := by decide +kernel
theorem dX7_work_82 : decode cX7_work 82 = .ok (.aload_n 0, 1) := by decide +kernel
theorem dX7_work_83 : decode cX7_work 83 = .ok (.getfield 9, 3) := by decide +kernel
theorem dX7_work_86 : decode cX7_work 86 = .ok (.iload 5, 2) := by decide +kernel
theorem dX7_work_88 : decode cX7_work 88 = .ok (.aload_n 0, 1) := by decide +kernel
theorem dX7_work_89 : decode cX7_work 89 = .ok (.getfield 9, 3) := by decide +kernel
theorem dX7_work_92 : decode cX7_work 92 = .ok (.iload 5, 2) := by decide +kernel
theorem dX7_work_94 : decode cX7_work 94 = .ok (.iaload, 1) := by decide +kernel
theorem dX7_work_95 : decode cX7_work 95 = .ok (.iload 6, 2) := by decide +kernel
theorem dX7_work_97 : decode cX7_work 97 = .ok (.isub, 1) := by decide +kernel
theorem dX7_work_98 : decode cX7_work 98 = .ok (.iconst 0, 1) := by decide +kernel
theorem dX7_work_99 : decode cX7_work 99 = .ok (.invokestatic 222, 3) := by decide +kernel
theorem dX7_work_102 : decode cX7_work 102 = .ok (.iastore, 1) := by decide +kernel
theorem dX7_work_103 : decode cX7_work 103 = .ok (.aload_n 0, 1) := by decide +kernel
theorem dX7_work_104 : decode cX7_work 104 = .ok (.iload_n 1, 1) := by decide +kernel
theorem dX7_work_105 : decode cX7_work 105 = .ok (.aload_n 0, 1) := by decide +kernel
theorem dX7_work_106 : decode cX7_work 106 = .ok (.getfield 32, 3) := by decide +kernel
theorem dX7_work_109 : decode cX7_work 109 = .ok (.getfield 180, 3) := by decide +kernel
theorem dX7_work_112 : decode cX7_work 112 = .ok (.iload 4, 2) := by decide +kernel
theorem dX7_work_114 : decode cX7_work 114 = .ok (.iaload, 1) := by decide +kernel
theorem dX7_work_115 : decode cX7_work 115 = .ok (.invokevirtual 225, 3) := by decide +kernel
theorem dX7_work_118 : decode cX7_work 118 = .ok (.aload_n 0, 1) := by decide +kernel
theorem dX7_work_119 : decode cX7_work 119 = .ok (.getfield 32, 3) := by decide +kernel
theorem dX7_work_122 : decode cX7_work 122 = .ok (.iload 4, 2) := by decide +kernel
theorem dX7_work_124 : decode cX7_work 124 = .ok (.invokevirtual 194, 3) := by decide +kernel
theorem dX7_work_127 : decode cX7_work 127 = .ok (.aload_n 0, 1) := by decide +kernel
theorem dX7_work_128 : decode cX7_work 128 = .ok (.dup, 1) := by decide +kernel
theorem dX7_work_129 : decode cX7_work 129 = .ok (.getfield 49, 3) := by decide +kernel
theorem dX7_work_132 : decode cX7_work 132 = .ok (.iconst 1, 1) := by decide +kernel
theorem dX7_work_133 : decode cX7_work 133 = .ok (.iadd, 1) := by decide +kernel
theorem dX7_work_134 : decode cX7_work 134 = .ok (.putfield 49, 3) := by decide +kernel
theorem dX7_work_137 : decode cX7_work 137 = .ok (.iinc 3 1, 3) := by decide +kernel
theorem dX7_work_140 : decode cX7_work 140 = .ok (.goto (-132), 3) := by decide +kernel
theorem dX7_work_143 : decode cX7_work 143 = .ok (.return_, 1) := by decide +kernel
theorem dX7_pay_0 : decode cX7_pay 0 = .ok (.iload_n 2, 1) := by decide +kernel
theorem dX7_pay_1 : decode cX7_pay 1 = .ok (.aload_n 0, 1) := by decide +kernel
theorem dX7_pay_2 : decode cX7_pay 2 = .ok (.getfield 40, 3) := by decide +kernel
theorem dX7_pay_5 : decode cX7_pay 5 = .ok (.invokestatic 189, 3) := by decide +kernel
theorem dX7_pay_8 : decode cX7_pay 8 = .ok (.istore_n 3, 1) := by decide +kernel
theorem dX7_pay_9 : decode cX7_pay 9 = .ok (.iload_n 3, 1) := by decide +kernel
theorem dX7_pay_10 : decode cX7_pay 10 = .ok (.aload_n 0, 1) := by decide +kernel
theorem dX7_pay_11 : decode cX7_pay 11 = .ok (.getfield 25, 3) := by decide +kernel
theorem dX7_pay_14 : decode cX7_pay 14 = .ok (.getfield 139, 3) := by decide +kernel
theorem dX7_pay_17 : decode cX7_pay 17 = .ok (.iload_n 1, 1) := by decide +kernel
theorem dX7_pay_18 : decode cX7_pay 18 = .ok (.iaload, 1) := by decide +kernel
theorem dX7_pay_19 : decode cX7_pay 19 = .ok (.invokestatic 189, 3) := by decide +kernel
theorem dX7_pay_22 : decode cX7_pay 22 = .ok (.istore 4, 2) := by decide +kernel
theorem dX7_pay_24 : decode cX7_pay 24 = .ok (.aload_n 0, 1) := by decide +kernel
theorem dX7_pay_25 : decode cX7_pay 25 = .ok (.dup, 1) := by decide +kernel
theorem dX7_pay_26 : decode cX7_pay 26 = .ok (.getfield 55, 3) := by decide +kernel
theorem dX7_pay_29 : decode cX7_pay 29 = .ok (.iload_n 2, 1) := by decide +kernel
theorem dX7_pay_30 : decode cX7_pay 30 = .ok (.iload_n 3, 1) := by decide +kernel
theorem dX7_pay_31 : decode cX7_pay 31 = .ok (.isub, 1) := by decide +kernel
theorem dX7_pay_32 : decode cX7_pay 32 = .ok (.iadd, 1) := by decide +kernel
theorem dX7_pay_33 : decode cX7_pay 33 = .ok (.putfield 55, 3) := by decide +kernel
theorem dX7_pay_36 : decode cX7_pay 36 = .ok (.aload_n 0, 1) := by decide +kernel
theorem dX7_pay_37 : decode cX7_pay 37 = .ok (.dup, 1) := by decide +kernel
theorem dX7_pay_38 : decode cX7_pay 38 = .ok (.getfield 40, 3) := by decide +kernel
theorem dX7_pay_41 : decode cX7_pay 41 = .ok (.iload 4, 2) := by decide +kernel
theorem dX7_pay_43 : decode cX7_pay 43 = .ok (.iload_n 3, 1) := by decide +kernel
theorem dX7_pay_44 : decode cX7_pay 44 = .ok (.isub, 1) := by decide +kernel
theorem dX7_pay_45 : decode cX7_pay 45 = .ok (.iadd, 1) := by decide +kernel
theorem dX7_pay_46 : decode cX7_pay 46 = .ok (.putfield 40, 3) := by decide +kernel
theorem dX7_pay_49 : decode cX7_pay 49 = .ok (.aload_n 0, 1) := by decide +kernel
theorem dX7_pay_50 : decode cX7_pay 50 = .ok (.getfield 25, 3) := by decide +kernel
theorem dX7_pay_53 : decode cX7_pay 53 = .ok (.getfield 139, 3) := by decide +kernel
theorem dX7_pay_56 : decode cX7_pay 56 = .ok (.iload_n 1, 1) := by decide +kernel
theorem dX7_pay_57 : decode cX7_pay 57 = .ok (.dup2, 1) := by decide +kernel
theorem dX7_pay_58 : decode cX7_pay 58 = .ok (.iaload, 1) := by decide +kernel
theorem dX7_pay_59 : decode cX7_pay 59 = .ok (.iload 4, 2) := by decide +kernel
theorem dX7_pay_61 : decode cX7_pay 61 = .ok (.isub, 1) := by decide +kernel
theorem dX7_pay_62 : decode cX7_pay 62 = .ok (.iastore, 1) := by decide +kernel
theorem dX7_pay_63 : decode cX7_pay 63 = .ok (.aload_n 0, 1) := by decide +kernel
theorem dX7_pay_64 : decode cX7_pay 64 = .ok (.getfield 25, 3) := by decide +kernel
theorem dX7_pay_67 : decode cX7_pay 67 = .ok (.getfield 136, 3) := by decide +kernel
theorem dX7_pay_70 : decode cX7_pay 70 = .ok (.iload_n 1, 1) := by decide +kernel
theorem dX7_pay_71 : decode cX7_pay 71 = .ok (.dup2, 1) := by decide +kernel
theorem dX7_pay_72 : decode cX7_pay 72 = .ok (.iaload, 1) := by decide +kernel
theorem dX7_pay_73 : decode cX7_pay 73 = .ok (.iload_n 3, 1) := by decide +kernel
theorem dX7_pay_74 : decode cX7_pay 74 = .ok (.iload 4, 2) := by decide +kernel
theorem dX7_pay_76 : decode cX7_pay 76 = .ok (.isub, 1) := by decide +kernel
theorem dX7_pay_77 : decode cX7_pay 77 = .ok (.iadd, 1) := by decide +kernel
theorem dX7_pay_78 : decode cX7_pay 78 = .ok (.iastore, 1) := by decide +kernel
theorem dX7_pay_79 : decode cX7_pay 79 = .ok (.return_, 1) := by decide +kernel
theorem dX7_breakContracts_0 : decode cX7_breakContracts 0 = .ok (.aload_n 0, 1) := by decide +kernel
theorem dX7_breakContracts_1 : decode cX7_breakContracts 1 = .ok (.getfield 32, 3) := by decide +kernel
theorem dX7_breakContracts_4 : decode cX7_breakContracts 4 = .ok (.getfield 164, 3) := by decide +kernel
theorem dX7_breakContracts_7 : decode cX7_breakContracts 7 = .ok (.iconst 1, 1) := by decide +kernel
theorem dX7_breakContracts_8 : decode cX7_breakContracts 8 = .ok (.isub, 1) := by decide +kernel
theorem dX7_breakContracts_9 : decode cX7_breakContracts 9 = .ok (.istore_n 1, 1) := by decide +kernel
theorem dX7_breakContracts_10 : decode cX7_breakContracts 10 = .ok (.iload_n 1, 1) := by decide +kernel
theorem dX7_breakContracts_11 : decode cX7_breakContracts 11 = .ok (.ifCond .lt 48, 3) := by decide +kernel
theorem dX7_breakContracts_14 : decode cX7_breakContracts 14 = .ok (.aload_n 0, 1) := by decide +kernel
theorem dX7_breakContracts_15 : decode cX7_breakContracts 15 = .ok (.getfield 25, 3) := by decide +kernel
theorem dX7_breakContracts_18 : decode cX7_breakContracts 18 = .ok (.getfield 142, 3) := by decide +kernel
theorem dX7_breakContracts_21 : decode cX7_breakContracts 21 = .ok (.aload_n 0, 1) := by decide +kernel
theorem dX7_breakContracts_22 : decode cX7_breakContracts 22 = .ok (.getfield 32, 3) := by decide +kernel
theorem dX7_breakContracts_25 : decode cX7_breakContracts 25 = .ok (.getfield 175, 3) := by decide +kernel
theorem dX7_breakContracts_28 : decode cX7_breakContracts 28 = .ok (.iload_n 1, 1) := by decide +kernel
theorem dX7_breakContracts_29 : decode cX7_breakContracts 29 = .ok (.iaload, 1) := by decide +kernel
theorem dX7_breakContracts_30 : decode cX7_breakContracts 30 = .ok (.iaload, 1) := by decide +kernel
theorem dX7_breakContracts_31 : decode cX7_breakContracts 31 = .ok (.iconst 3, 1) := by decide +kernel
theorem dX7_breakContracts_32 : decode cX7_breakContracts 32 = .ok (.if_icmp .lt 21, 3) := by decide +kernel
theorem dX7_breakContracts_35 : decode cX7_breakContracts 35 = .ok (.aload_n 0, 1) := by decide +kernel
theorem dX7_breakContracts_36 : decode cX7_breakContracts 36 = .ok (.getfield 32, 3) := by decide +kernel
theorem dX7_breakContracts_39 : decode cX7_breakContracts 39 = .ok (.iload_n 1, 1) := by decide +kernel
theorem dX7_breakContracts_40 : decode cX7_breakContracts 40 = .ok (.invokevirtual 194, 3) := by decide +kernel
theorem dX7_breakContracts_43 : decode cX7_breakContracts 43 = .ok (.aload_n 0, 1) := by decide +kernel
theorem dX7_breakContracts_44 : decode cX7_breakContracts 44 = .ok (.dup, 1) := by decide +kernel
theorem dX7_breakContracts_45 : decode cX7_breakContracts 45 = .ok (.getfield 52, 3) := by decide +kernel
theorem dX7_breakContracts_48 : decode cX7_breakContracts 48 = .ok (.iconst 1, 1) := by decide +kernel
theorem dX7_breakContracts_49 : decode cX7_breakContracts 49 = .ok (.iadd, 1) := by decide +kernel
theorem dX7_breakContracts_50 : decode cX7_breakContracts 50 = .ok (.putfield 52, 3) := by decide +kernel
theorem dX7_breakContracts_53 : decode cX7_breakContracts 53 = .ok (.iinc 1 (-1), 3) := by decide +kernel
theorem dX7_breakContracts_56 : decode cX7_breakContracts 56 = .ok (.goto (-46), 3) := by decide +kernel
theorem dX7_breakContracts_59 : decode cX7_breakContracts 59 = .ok (.return_, 1) := by decide +kernel
theorem dX7_growDebts_0 : decode cX7_growDebts 0 = .ok (.iconst 0, 1) := by decide +kernel
theorem dX7_growDebts_1 : decode cX7_growDebts 1 = .ok (.istore_n 1, 1) := by decide +kernel
theorem dX7_growDebts_2 : decode cX7_growDebts 2 = .ok (.iload_n 1, 1) := by decide +kernel
theorem dX7_growDebts_3 : decode cX7_growDebts 3 = .ok (.aload_n 0, 1) := by decide +kernel
theorem dX7_growDebts_4 : decode cX7_growDebts 4 = .ok (.getfield 25, 3) := by decide +kernel
theorem dX7_growDebts_7 : decode cX7_growDebts 7 = .ok (.getfield 130, 3) := by decide +kernel
theorem dX7_growDebts_10 : decode cX7_growDebts 10 = .ok (.if_icmp .ge 60, 3) := by decide +kernel
theorem dX7_growDebts_13 : decode cX7_growDebts 13 = .ok (.aload_n 0, 1) := by decide +kernel
theorem dX7_growDebts_14 : decode cX7_growDebts 14 = .ok (.getfield 25, 3) := by decide +kernel
theorem dX7_growDebts_17 : decode cX7_growDebts 17 = .ok (.getfield 139, 3) := by decide +kernel
theorem dX7_growDebts_20 : decode cX7_growDebts 20 = .ok (.iload_n 1, 1) := by decide +kernel
theorem dX7_growDebts_21 : decode cX7_growDebts 21 = .ok (.iaload, 1) := by decide +kernel
theorem dX7_growDebts_22 : decode cX7_growDebts 22 = .ok (.istore_n 2, 1) := by decide +kernel
theorem dX7_growDebts_23 : decode cX7_growDebts 23 = .ok (.iload_n 2, 1) := by decide +kernel
theorem dX7_growDebts_24 : decode cX7_growDebts 24 = .ok (.ifCond .le 40, 3) := by decide +kernel
theorem dX7_growDebts_27 : decode cX7_growDebts 27 = .ok (.iload_n 2, 1) := by decide +kernel
theorem dX7_growDebts_28 : decode cX7_growDebts 28 = .ok (.iload_n 2, 1) := by decide +kernel
theorem dX7_growDebts_29 : decode cX7_growDebts 29 = .ok (.bipush 10, 2) := by decide +kernel
theorem dX7_growDebts_31 : decode cX7_growDebts 31 = .ok (.idiv, 1) := by decide +kernel
theorem dX7_growDebts_32 : decode cX7_growDebts 32 = .ok (.iadd, 1) := by decide +kernel
theorem dX7_growDebts_33 : decode cX7_growDebts 33 = .ok (.iconst 1, 1) := by decide +kernel
theorem dX7_growDebts_34 : decode cX7_growDebts 34 = .ok (.iadd, 1) := by decide +kernel
theorem dX7_growDebts_35 : decode cX7_growDebts 35 = .ok (.sipush 999, 3) := by decide +kernel
theorem dX7_growDebts_38 : decode cX7_growDebts 38 = .ok (.invokestatic 189, 3) := by decide +kernel
theorem dX7_growDebts_41 : decode cX7_growDebts 41 = .ok (.istore_n 3, 1) := by decide +kernel
theorem dX7_growDebts_42 : decode cX7_growDebts 42 = .ok (.aload_n 0, 1) := by decide +kernel
theorem dX7_growDebts_43 : decode cX7_growDebts 43 = .ok (.dup, 1) := by decide +kernel
theorem dX7_growDebts_44 : decode cX7_growDebts 44 = .ok (.getfield 58, 3) := by decide +kernel
theorem dX7_growDebts_47 : decode cX7_growDebts 47 = .ok (.iload_n 3, 1) := by decide +kernel
theorem dX7_growDebts_48 : decode cX7_growDebts 48 = .ok (.iload_n 2, 1) := by decide +kernel
theorem dX7_growDebts_49 : decode cX7_growDebts 49 = .ok (.isub, 1) := by decide +kernel
theorem dX7_growDebts_50 : decode cX7_growDebts 50 = .ok (.iadd, 1) := by decide +kernel
theorem dX7_growDebts_51 : decode cX7_growDebts 51 = .ok (.putfield 58, 3) := by decide +kernel
theorem dX7_growDebts_54 : decode cX7_growDebts 54 = .ok (.aload_n 0, 1) := by decide +kernel
theorem dX7_growDebts_55 : decode cX7_growDebts 55 = .ok (.getfield 25, 3) := by decide +kernel
theorem dX7_growDebts_58 : decode cX7_growDebts 58 = .ok (.getfield 139, 3) := by decide +kernel
theorem dX7_growDebts_61 : decode cX7_growDebts 61 = .ok (.iload_n 1, 1) := by decide +kernel
theorem dX7_growDebts_62 : decode cX7_growDebts 62 = .ok (.iload_n 3, 1) := by decide +kernel
theorem dX7_growDebts_63 : decode cX7_growDebts 63 = .ok (.iastore, 1) := by decide +kernel
theorem dX7_growDebts_64 : decode cX7_growDebts 64 = .ok (.iinc 1 1, 3) := by decide +kernel
theorem dX7_growDebts_67 : decode cX7_growDebts 67 = .ok (.goto (-65), 3) := by decide +kernel
theorem dX7_growDebts_70 : decode cX7_growDebts 70 = .ok (.return_, 1) := by decide +kernel
theorem dX8_init_0 : decode cX8_init 0 = .ok (.aload_n 0, 1) := by decide +kernel
theorem dX8_init_1 : decode cX8_init 1 = .ok (.invokespecial 3, 3) := by decide +kernel
theorem dX8_init_4 : decode cX8_init 4 = .ok (.aload_n 0, 1) := by decide +kernel
theorem dX8_init_5 : decode cX8_init 5 = .ok (.new 9, 3) := by decide +kernel
theorem dX8_init_8 : decode cX8_init 8 = .ok (.dup, 1) := by decide +kernel
theorem dX8_init_9 : decode cX8_init 9 = .ok (.invokespecial 11, 3) := by decide +kernel
theorem dX8_init_12 : decode cX8_init 12 = .ok (.putfield 12, 3) := by decide +kernel
theorem dX8_init_15 : decode cX8_init 15 = .ok (.aload_n 0, 1) := by decide +kernel
theorem dX8_init_16 : decode cX8_init 16 = .ok (.bipush 12, 2) := by decide +kernel
theorem dX8_init_18 : decode cX8_init 18 = .ok (.anewarray 18, 3) := by decide +kernel
theorem dX8_init_21 : decode cX8_init 21 = .ok (.putfield 20, 3) := by decide +kernel
theorem dX8_init_24 : decode cX8_init 24 = .ok (.aload_n 0, 1) := by decide +kernel
theorem dX8_init_25 : decode cX8_init 25 = .ok (.iconst 0, 1) := by decide +kernel
theorem dX8_init_26 : decode cX8_init 26 = .ok (.putfield 24, 3) := by decide +kernel
theorem dX8_init_29 : decode cX8_init 29 = .ok (.aload_n 0, 1) := by decide +kernel
theorem dX8_init_30 : decode cX8_init 30 = .ok (.iconst 0, 1) := by decide +kernel
theorem dX8_init_31 : decode cX8_init 31 = .ok (.putfield 28, 3) := by decide +kernel
theorem dX8_init_34 : decode cX8_init 34 = .ok (.iconst 0, 1) := by decide +kernel
theorem dX8_init_35 : decode cX8_init 35 = .ok (.istore_n 1, 1) := by decide +kernel
theorem dX8_init_36 : decode cX8_init 36 = .ok (.iload_n 1, 1) := by decide +kernel
theorem dX8_init_37 : decode cX8_init 37 = .ok (.aload_n 0, 1) := by decide +kernel
theorem dX8_init_38 : decode cX8_init 38 = .ok (.getfield 20, 3) := by decide +kernel
theorem dX8_init_41 : decode cX8_init 41 = .ok (.arraylength, 1) := by decide +kernel
theorem dX8_init_42 : decode cX8_init 42 = .ok (.if_icmp .ge 22, 3) := by decide +kernel
theorem dX8_init_45 : decode cX8_init 45 = .ok (.aload_n 0, 1) := by decide +kernel
theorem dX8_init_46 : decode cX8_init 46 = .ok (.getfield 20, 3) := by decide +kernel
theorem dX8_init_49 : decode cX8_init 49 = .ok (.iload_n 1, 1) := by decide +kernel
theorem dX8_init_50 : decode cX8_init 50 = .ok (.new 18, 3) := by decide +kernel
theorem dX8_init_53 : decode cX8_init 53 = .ok (.dup, 1) := by decide +kernel
theorem dX8_init_54 : decode cX8_init 54 = .ok (.invokespecial 31, 3) := by decide +kernel
theorem dX8_init_57 : decode cX8_init 57 = .ok (.aastore, 1) := by decide +kernel
theorem dX8_init_58 : decode cX8_init 58 = .ok (.iinc 1 1, 3) := by decide +kernel
theorem dX8_init_61 : decode cX8_init 61 = .ok (.goto (-25), 3) := by decide +kernel
theorem dX8_init_64 : decode cX8_init 64 = .ok (.return_, 1) := by decide +kernel
theorem dX8_readCommands_0 : decode cX8_readCommands 0 = .ok (.aload_n 0, 1) := by decide +kernel
theorem dX8_readCommands_1 : decode cX8_readCommands 1 = .ok (.iconst 0, 1) := by decide +kernel
theorem dX8_readCommands_2 : decode cX8_readCommands 2 = .ok (.putfield 24, 3) := by decide +kernel
theorem dX8_readCommands_5 : decode cX8_readCommands 5 = .ok (.aload_n 0, 1) := by decide +kernel
theorem dX8_readCommands_6 : decode cX8_readCommands 6 = .ok (.iconst 0, 1) := by decide +kernel
theorem dX8_readCommands_7 : decode cX8_readCommands 7 = .ok (.putfield 28, 3) := by decide +kernel
theorem dX8_readCommands_10 : decode cX8_readCommands 10 = .ok (.iconst 0, 1) := by decide +kernel
theorem dX8_readCommands_11 : decode cX8_readCommands 11 = .ok (.istore_n 1, 1) := by decide +kernel
theorem dX8_readCommands_12 : decode cX8_readCommands 12 = .ok (.iconst 0, 1) := by decide +kernel
theorem dX8_readCommands_13 : decode cX8_readCommands 13 = .ok (.istore_n 2, 1) := by decide +kernel
theorem dX8_readCommands_14 : decode cX8_readCommands 14 = .ok (.iload_n 2, 1) := by decide +kernel
theorem dX8_readCommands_15 : decode cX8_readCommands 15 = .ok (.bipush 12, 2) := by decide +kernel
theorem dX8_readCommands_17 : decode cX8_readCommands 17 = .ok (.if_icmp .ge 55, 3) := by decide +kernel
theorem dX8_readCommands_20 : decode cX8_readCommands 20 = .ok (.aload_n 0, 1) := by decide +kernel
theorem dX8_readCommands_21 : decode cX8_readCommands 21 = .ok (.iload_n 1, 1) := by decide +kernel
theorem dX8_readCommands_22 : decode cX8_readCommands 22 = .ok (.aload_n 0, 1) := by decide +kernel
theorem dX8_readCommands_23 : decode cX8_readCommands 23 = .ok (.getfield 20, 3) := by decide +kernel
theorem dX8_readCommands_26 : decode cX8_readCommands 26 = .ok (.iload_n 2, 1) := by decide +kernel
theorem dX8_readCommands_27 : decode cX8_readCommands 27 = .ok (.aaload, 1) := by decide +kernel
theorem dX8_readCommands_28 : decode cX8_readCommands 28 = .ok (.invokevirtual 32, 3) := by decide +kernel
theorem dX8_readCommands_31 : decode cX8_readCommands 31 = .ok (.istore_n 3, 1) := by decide +kernel
theorem dX8_readCommands_32 : decode cX8_readCommands 32 = .ok (.iload_n 3, 1) := by decide +kernel
theorem dX8_readCommands_33 : decode cX8_readCommands 33 = .ok (.iconst (-1), 1) := by decide +kernel
theorem dX8_readCommands_34 : decode cX8_readCommands 34 = .ok (.if_icmp .ne 5, 3) := by decide +kernel
theorem dX8_readCommands_37 : decode cX8_readCommands 37 = .ok (.iconst 0, 1) := by decide +kernel
theorem dX8_readCommands_38 : decode cX8_readCommands 38 = .ok (.ireturn, 1) := by decide +kernel
theorem dX8_readCommands_39 : decode cX8_readCommands 39 = .ok (.aload_n 0, 1) := by decide +kernel
theorem dX8_readCommands_40 : decode cX8_readCommands 40 = .ok (.dup, 1) := by decide +kernel
theorem dX8_readCommands_41 : decode cX8_readCommands 41 = .ok (.getfield 24, 3) := by decide +kernel
theorem dX8_readCommands_44 : decode cX8_readCommands 44 = .ok (.iconst 1, 1) := by decide +kernel
theorem dX8_readCommands_45 : decode cX8_readCommands 45 = .ok (.iadd, 1) := by decide +kernel
theorem dX8_readCommands_46 : decode cX8_readCommands 46 = .ok (.putfield 24, 3) := by decide +kernel
theorem dX8_readCommands_49 : decode cX8_readCommands 49 = .ok (.iload_n 3, 1) := by decide +kernel
theorem dX8_readCommands_50 : decode cX8_readCommands 50 = .ok (.aload_n 0, 1) := by decide +kernel
theorem dX8_readCommands_51 : decode cX8_readCommands 51 = .ok (.getfield 12, 3) := by decide +kernel
theorem dX8_readCommands_54 : decode cX8_readCommands 54 = .ok (.invokevirtual 36, 3) := by decide +kernel
theorem dX8_readCommands_57 : decode cX8_readCommands 57 = .ok (.if_icmp .ne 5, 3) := by decide +kernel
theorem dX8_readCommands_60 : decode cX8_readCommands 60 = .ok (.iconst 1, 1) := by decide +kernel
theorem dX8_readCommands_61 : decode cX8_readCommands 61 = .ok (.ireturn, 1) := by decide +kernel
theorem dX8_readCommands_62 : decode cX8_readCommands 62 = .ok (.iload_n 3, 1) := by decide +kernel
theorem dX8_readCommands_63 : decode cX8_readCommands 63 = .ok (.iconst 1, 1) := by decide +kernel
theorem dX8_readCommands_64 : decode cX8_readCommands 64 = .ok (.iadd, 1) := by decide +kernel
theorem dX8_readCommands_65 : decode cX8_readCommands 65 = .ok (.istore_n 1, 1) := by decide +kernel
theorem dX8_readCommands_66 : decode cX8_readCommands 66 = .ok (.iinc 2 1, 3) := by decide +kernel
theorem dX8_readCommands_69 : decode cX8_readCommands 69 = .ok (.goto (-55), 3) := by decide +kernel
theorem dX8_readCommands_72 : decode cX8_readCommands 72 = .ok (.iconst 0, 1) := by decide +kernel
theorem dX8_readCommands_73 : decode cX8_readCommands 73 = .ok (.ireturn, 1) := by decide +kernel
theorem dX8_readCommand_0 : decode cX8_readCommand 0 = .ok (.getstatic 40, 3) := by decide +kernel
theorem dX8_readCommand_3 : decode cX8_readCommand 3 = .ok (.astore_n 3, 1) := by decide +kernel
theorem dX8_readCommand_4 : decode cX8_readCommand 4 = .ok (.aload_n 3, 1) := by decide +kernel
theorem dX8_readCommand_5 : decode cX8_readCommand 5 = .ok (.arraylength, 1) := by decide +kernel
theorem dX8_readCommand_6 : decode cX8_readCommand 6 = .ok (.istore 4, 2) := by decide +kernel
theorem dX8_readCommand_8 : decode cX8_readCommand 8 = .ok (.iconst 0, 1) := by decide +kernel
theorem dX8_readCommand_9 : decode cX8_readCommand 9 = .ok (.istore 5, 2) := by decide +kernel
theorem dX8_readCommand_11 : decode cX8_readCommand 11 = .ok (.iload 5, 2) := by decide +kernel
theorem dX8_readCommand_13 : decode cX8_readCommand 13 = .ok (.iload 4, 2) := by decide +kernel
theorem dX8_readCommand_15 : decode cX8_readCommand 15 = .ok (.if_icmp .ge 43, 3) := by decide +kernel
theorem dX8_readCommand_18 : decode cX8_readCommand 18 = .ok (.aload_n 3, 1) := by decide +kernel
theorem dX8_readCommand_19 : decode cX8_readCommand 19 = .ok (.iload 5, 2) := by decide +kernel
theorem dX8_readCommand_21 : decode cX8_readCommand 21 = .ok (.aaload, 1) := by decide +kernel
theorem dX8_readCommand_22 : decode cX8_readCommand 22 = .ok (.astore 6, 2) := by decide +kernel
theorem dX8_readCommand_24 : decode cX8_readCommand 24 = .ok (.aload_n 0, 1) := by decide +kernel
theorem dX8_readCommand_25 : decode cX8_readCommand 25 = .ok (.aload 6, 2) := by decide +kernel
theorem dX8_readCommand_27 : decode cX8_readCommand 27 = .ok (.getfield 44, 3) := by decide +kernel
theorem dX8_readCommand_30 : decode cX8_readCommand 30 = .ok (.iload_n 1, 1) := by decide +kernel
theorem dX8_readCommand_31 : decode cX8_readCommand 31 = .ok (.aload_n 2, 1) := by decide +kernel
theorem dX8_readCommand_32 : decode cX8_readCommand 32 = .ok (.invokevirtual 50, 3) := by decide +kernel
theorem dX8_readCommand_35 : decode cX8_readCommand 35 = .ok (.istore 7, 2) := by decide +kernel
theorem dX8_readCommand_37 : decode cX8_readCommand 37 = .ok (.iload 7, 2) := by decide +kernel
theorem dX8_readCommand_39 : decode cX8_readCommand 39 = .ok (.iconst (-1), 1) := by decide +kernel
theorem dX8_readCommand_40 : decode cX8_readCommand 40 = .ok (.if_icmp .eq 12, 3) := by decide +kernel
theorem dX8_readCommand_43 : decode cX8_readCommand 43 = .ok (.aload_n 2, 1) := by decide +kernel
theorem dX8_readCommand_44 : decode cX8_readCommand 44 = .ok (.aload 6, 2) := by decide +kernel
theorem dX8_readCommand_46 : decode cX8_readCommand 46 = .ok (.putfield 54, 3) := by decide +kernel
theorem dX8_readCommand_49 : decode cX8_readCommand 49 = .ok (.iload 7, 2) := by decide +kernel
theorem dX8_readCommand_51 : decode cX8_readCommand 51 = .ok (.ireturn, 1) := by decide +kernel
theorem dX8_readCommand_52 : decode cX8_readCommand 52 = .ok (.iinc 5 1, 3) := by decide +kernel
theorem dX8_readCommand_55 : decode cX8_readCommand 55 = .ok (.goto (-44), 3) := by decide +kernel
theorem dX8_readCommand_58 : decode cX8_readCommand 58 = .ok (.iconst (-1), 1) := by decide +kernel
theorem dX8_readCommand_59 : decode cX8_readCommand 59 = .ok (.ireturn, 1) := by decide +kernel
theorem dX8_fit_0 : decode cX8_fit 0 = .ok (.aload_n 3, 1) := by decide +kernel
theorem dX8_fit_1 : decode cX8_fit 1 = .ok (.iconst 0, 1) := by decide +kernel
theorem dX8_fit_2 : decode cX8_fit 2 = .ok (.putfield 58, 3) := by decide +kernel
theorem dX8_fit_5 : decode cX8_fit 5 = .ok (.iload_n 2, 1) := by decide +kernel
theorem dX8_fit_6 : decode cX8_fit 6 = .ok (.istore 4, 2) := by decide +kernel
theorem dX8_fit_8 : decode cX8_fit 8 = .ok (.iconst 0, 1) := by decide +kernel
theorem dX8_fit_9 : decode cX8_fit 9 = .ok (.istore 5, 2) := by decide +kernel
theorem dX8_fit_11 : decode cX8_fit 11 = .ok (.iload 5, 2) := by decide +kernel
theorem dX8_fit_13 : decode cX8_fit 13 = .ok (.aload_n 1, 1) := by decide +kernel
theorem dX8_fit_14 : decode cX8_fit 14 = .ok (.invokevirtual 59, 3) := by decide +kernel
theorem dX8_fit_17 : decode cX8_fit 17 = .ok (.if_icmp .ge 65, 3) := by decide +kernel
theorem dX8_fit_20 : decode cX8_fit 20 = .ok (.aload_n 0, 1) := by decide +kernel
theorem dX8_fit_21 : decode cX8_fit 21 = .ok (.aload_n 1, 1) := by decide +kernel
theorem dX8_fit_22 : decode cX8_fit 22 = .ok (.iload 5, 2) := by decide +kernel
theorem dX8_fit_24 : decode cX8_fit 24 = .ok (.invokevirtual 62, 3) := by decide +kernel
theorem dX8_fit_27 : decode cX8_fit 27 = .ok (.iload 4, 2) := by decide +kernel
theorem dX8_fit_29 : decode cX8_fit 29 = .ok (.invokevirtual 66, 3) := by decide +kernel
theorem dX8_fit_32 : decode cX8_fit 32 = .ok (.istore 6, 2) := by decide +kernel
theorem dX8_fit_34 : decode cX8_fit 34 = .ok (.iload 6, 2) := by decide +kernel
theorem dX8_fit_36 : decode cX8_fit 36 = .ok (.iload 4, 2) := by decide +kernel
theorem dX8_fit_38 : decode cX8_fit 38 = .ok (.if_icmp .ne 10, 3) := by decide +kernel
theorem dX8_fit_41 : decode cX8_fit 41 = .ok (.aload_n 0, 1) := by decide +kernel
theorem dX8_fit_42 : decode cX8_fit 42 = .ok (.iload 4, 2) := by decide +kernel
theorem dX8_fit_44 : decode cX8_fit 44 = .ok (.invokevirtual 70, 3) := by decide +kernel
theorem dX8_fit_47 : decode cX8_fit 47 = .ok (.ireturn, 1) := by decide +kernel
theorem dX8_fit_48 : decode cX8_fit 48 = .ok (.aload_n 1, 1) := by decide +kernel
theorem dX8_fit_49 : decode cX8_fit 49 = .ok (.iload 5, 2) := by decide +kernel
theorem dX8_fit_51 : decode cX8_fit 51 = .ok (.invokevirtual 62, 3) := by decide +kernel
theorem dX8_fit_54 : decode cX8_fit 54 = .ok (.invokestatic 74, 3) := by decide +kernel
theorem dX8_fit_57 : decode cX8_fit 57 = .ok (.ifCond .eq 15, 3) := by decide +kernel
theorem dX8_fit_60 : decode cX8_fit 60 = .ok (.aload_n 3, 1) := by decide +kernel
theorem dX8_fit_61 : decode cX8_fit 61 = .ok (.aload_n 0, 1) := by decide +kernel
theorem dX8_fit_62 : decode cX8_fit 62 = .ok (.iload 4, 2) := by decide +kernel
theorem dX8_fit_64 : decode cX8_fit 64 = .ok (.iload 6, 2) := by decide +kernel
theorem dX8_fit_66 : decode cX8_fit 66 = .ok (.invokevirtual 78, 3) := by decide +kernel
theorem dX8_fit_69 : decode cX8_fit 69 = .ok (.invokevirtual 82, 3) := by decide +kernel
theorem dX8_fit_72 : decode cX8_fit 72 = .ok (.iload 6, 2) := by decide +kernel
theorem dX8_fit_74 : decode cX8_fit 74 = .ok (.istore 4, 2) := by decide +kernel
theorem dX8_fit_76 : decode cX8_fit 76 = .ok (.iinc 5 1, 3) := by decide +kernel
theorem dX8_fit_79 : decode cX8_fit 79 = .ok (.goto (-68), 3) := by decide +kernel
theorem dX8_fit_82 : decode cX8_fit 82 = .ok (.iload 4, 2) := by decide +kernel
theorem dX8_fit_84 : decode cX8_fit 84 = .ok (.aload_n 0, 1) := by decide +kernel
theorem dX8_fit_85 : decode cX8_fit 85 = .ok (.getfield 12, 3) := by decide +kernel
theorem dX8_fit_88 : decode cX8_fit 88 = .ok (.invokevirtual 36, 3) := by decide +kernel
theorem dX8_fit_91 : decode cX8_fit 91 = .ok (.if_icmp .ge 24, 3) := by decide +kernel
theorem dX8_fit_94 : decode cX8_fit 94 = .ok (.aload_n 0, 1) := by decide +kernel
theorem dX8_fit_95 : decode cX8_fit 95 = .ok (.getfield 12, 3) := by decide +kernel
theorem dX8_fit_98 : decode cX8_fit 98 = .ok (.iload 4, 2) := by decide +kernel
theorem dX8_fit_100 : decode cX8_fit 100 = .ok (.invokevirtual 86, 3) := by decide +kernel
theorem dX8_fit_103 : decode cX8_fit 103 = .ok (.bipush 59, 2) := by decide +kernel
theorem dX8_fit_105 : decode cX8_fit 105 = .ok (.if_icmp .eq 10, 3) := by decide +kernel
theorem dX8_fit_108 : decode cX8_fit 108 = .ok (.aload_n 0, 1) := by decide +kernel
theorem dX8_fit_109 : decode cX8_fit 109 = .ok (.iload 4, 2) := by decide +kernel
theorem dX8_fit_111 : decode cX8_fit 111 = .ok (.invokevirtual 70, 3) := by decide +kernel
theorem dX8_fit_114 : decode cX8_fit 114 = .ok (.ireturn, 1) := by decide +kernel
theorem dX8_fit_115 : decode cX8_fit 115 = .ok (.iload 4, 2) := by decide +kernel
theorem dX8_fit_117 : decode cX8_fit 117 = .ok (.ireturn, 1) := by decide +kernel
theorem dX8_stopAt_0 : decode cX8_stopAt 0 = .ok (.aload_n 0, 1) := by decide +kernel
theorem dX8_stopAt_1 : decode cX8_stopAt 1 = .ok (.aload_n 0, 1) := by decide +kernel
theorem dX8_stopAt_2 : decode cX8_stopAt 2 = .ok (.getfield 28, 3) := by decide +kernel
theorem dX8_stopAt_5 : decode cX8_stopAt 5 = .ok (.iload_n 1, 1) := by decide +kernel
theorem dX8_stopAt_6 : decode cX8_stopAt 6 = .ok (.invokestatic 87, 3) := by decide +kernel
theorem dX8_stopAt_9 : decode cX8_stopAt 9 = .ok (.putfield 28, 3) := by decide +kernel
theorem dX8_stopAt_12 : decode cX8_stopAt 12 = .ok (.iconst (-1), 1) := by decide +kernel
theorem dX8_stopAt_13 : decode cX8_stopAt 13 = .ok (.ireturn, 1) := by decide +kernel
theorem dX8_isArgument_0 : decode cX8_isArgument 0 = .ok (.iload_n 0, 1) := by decide +kernel
theorem dX8_isArgument_1 : decode cX8_isArgument 1 = .ok (.bipush 35, 2) := by decide +kernel
theorem dX8_isArgument_3 : decode cX8_isArgument 3 = .ok (.if_icmp .eq 9, 3) := by decide +kernel
theorem dX8_isArgument_6 : decode cX8_isArgument 6 = .ok (.iload_n 0, 1) := by decide +kernel
theorem dX8_isArgument_7 : decode cX8_isArgument 7 = .ok (.bipush 42, 2) := by decide +kernel
theorem dX8_isArgument_9 : decode cX8_isArgument 9 = .ok (.if_icmp .ne 7, 3) := by decide +kernel
theorem dX8_isArgument_12 : decode cX8_isArgument 12 = .ok (.iconst 1, 1) := by decide +kernel
theorem dX8_isArgument_13 : decode cX8_isArgument 13 = .ok (.goto 4, 3) := by decide +kernel
theorem dX8_isArgument_16 : decode cX8_isArgument 16 = .ok (.iconst 0, 1) := by decide +kernel
theorem dX8_isArgument_17 : decode cX8_isArgument 17 = .ok (.ireturn, 1) := by decide +kernel
theorem dX8_endOfSign_0 : decode cX8_endOfSign 0 = .ok (.iload_n 1, 1) := by decide +kernel
theorem dX8_endOfSign_1 : decode cX8_endOfSign 1 = .ok (.invokestatic 74, 3) := by decide +kernel
theorem dX8_endOfSign_4 : decode cX8_endOfSign 4 = .ok (.ifCond .eq 20, 3) := by decide +kernel
theorem dX8_endOfSign_7 : decode cX8_endOfSign 7 = .ok (.aload_n 0, 1) := by decide +kernel
theorem dX8_endOfSign_8 : decode cX8_endOfSign 8 = .ok (.iload_n 2, 1) := by decide +kernel
theorem dX8_endOfSign_9 : decode cX8_endOfSign 9 = .ok (.iload_n 1, 1) := by decide +kernel
theorem dX8_endOfSign_10 : decode cX8_endOfSign 10 = .ok (.bipush 35, 2) := by decide +kernel
theorem dX8_endOfSign_12 : decode cX8_endOfSign 12 = .ok (.if_icmp .ne 7, 3) := by decide +kernel
theorem dX8_endOfSign_15 : decode cX8_endOfSign 15 = .ok (.iconst 1, 1) := by decide +kernel
theorem dX8_endOfSign_16 : decode cX8_endOfSign 16 = .ok (.goto 4, 3) := by decide +kernel
theorem dX8_endOfSign_19 : decode cX8_endOfSign 19 = .ok (.iconst 3, 1) := by decide +kernel
theorem dX8_endOfSign_20 : decode cX8_endOfSign 20 = .ok (.invokevirtual 92, 3) := by decide +kernel
theorem dX8_endOfSign_23 : decode cX8_endOfSign 23 = .ok (.ireturn, 1) := by decide +kernel
theorem dX8_endOfSign_24 : decode cX8_endOfSign 24 = .ok (.iload_n 2, 1) := by decide +kernel
theorem dX8_endOfSign_25 : decode cX8_endOfSign 25 = .ok (.aload_n 0, 1) := by decide +kernel
theorem dX8_endOfSign_26 : decode cX8_endOfSign 26 = .ok (.getfield 12, 3) := by decide +kernel
theorem dX8_endOfSign_29 : decode cX8_endOfSign 29 = .ok (.invokevirtual 36, 3) := by decide +kernel
theorem dX8_endOfSign_32 : decode cX8_endOfSign 32 = .ok (.if_icmp .ge 21, 3) := by decide +kernel
theorem dX8_endOfSign_35 : decode cX8_endOfSign 35 = .ok (.aload_n 0, 1) := by decide +kernel
theorem dX8_endOfSign_36 : decode cX8_endOfSign 36 = .ok (.getfield 12, 3) := by decide +kernel
theorem dX8_endOfSign_39 : decode cX8_endOfSign 39 = .ok (.iload_n 2, 1) := by decide +kernel
theorem dX8_endOfSign_40 : decode cX8_endOfSign 40 = .ok (.invokevirtual 86, 3) := by decide +kernel
theorem dX8_endOfSign_43 : decode cX8_endOfSign 43 = .ok (.iload_n 1, 1) := by decide +kernel
theorem dX8_endOfSign_44 : decode cX8_endOfSign 44 = .ok (.if_icmp .ne 9, 3) := by decide +kernel
theorem dX8_endOfSign_47 : decode cX8_endOfSign 47 = .ok (.iload_n 2, 1) := by decide +kernel
theorem dX8_endOfSign_48 : decode cX8_endOfSign 48 = .ok (.iconst 1, 1) := by decide +kernel
theorem dX8_endOfSign_49 : decode cX8_endOfSign 49 = .ok (.iadd, 1) := by decide +kernel
theorem dX8_endOfSign_50 : decode cX8_endOfSign 50 = .ok (.goto 4, 3) := by decide +kernel
theorem dX8_endOfSign_53 : decode cX8_endOfSign 53 = .ok (.iload_n 2, 1) := by decide +kernel
theorem dX8_endOfSign_54 : decode cX8_endOfSign 54 = .ok (.ireturn, 1) := by decide +kernel
theorem dX8_endOfDigits_0 : decode cX8_endOfDigits 0 = .ok (.iload_n 1, 1) := by decide +kernel
theorem dX8_endOfDigits_1 : decode cX8_endOfDigits 1 = .ok (.istore_n 3, 1) := by decide +kernel
theorem dX8_endOfDigits_2 : decode cX8_endOfDigits 2 = .ok (.iconst 0, 1) := by decide +kernel
theorem dX8_endOfDigits_3 : decode cX8_endOfDigits 3 = .ok (.istore 4, 2) := by decide +kernel
theorem dX8_endOfDigits_5 : decode cX8_endOfDigits 5 = .ok (.iload 4, 2) := by decide +kernel
theorem dX8_endOfDigits_7 : decode cX8_endOfDigits 7 = .ok (.iload_n 2, 1) := by decide +kernel
theorem dX8_endOfDigits_8 : decode cX8_endOfDigits 8 = .ok (.if_icmp .ge 49, 3) := by decide +kernel
theorem dX8_endOfDigits_11 : decode cX8_endOfDigits 11 = .ok (.iload_n 3, 1) := by decide +kernel
theorem dX8_endOfDigits_12 : decode cX8_endOfDigits 12 = .ok (.aload_n 0, 1) := by decide +kernel
theorem dX8_endOfDigits_13 : decode cX8_endOfDigits 13 = .ok (.getfield 12, 3) := by decide +kernel
theorem dX8_endOfDigits_16 : decode cX8_endOfDigits 16 = .ok (.invokevirtual 36, 3) := by decide +kernel
theorem dX8_endOfDigits_19 : decode cX8_endOfDigits 19 = .ok (.if_icmp .ge 32, 3) := by decide +kernel
theorem dX8_endOfDigits_22 : decode cX8_endOfDigits 22 = .ok (.aload_n 0, 1) := by decide +kernel
theorem dX8_endOfDigits_23 : decode cX8_endOfDigits 23 = .ok (.getfield 12, 3) := by decide +kernel
theorem dX8_endOfDigits_26 : decode cX8_endOfDigits 26 = .ok (.iload_n 3, 1) := by decide +kernel
theorem dX8_endOfDigits_27 : decode cX8_endOfDigits 27 = .ok (.invokevirtual 86, 3) := by decide +kernel
theorem dX8_endOfDigits_30 : decode cX8_endOfDigits 30 = .ok (.bipush 48, 2) := by decide +kernel
theorem dX8_endOfDigits_32 : decode cX8_endOfDigits 32 = .ok (.if_icmp .lt 19, 3) := by decide +kernel
theorem dX8_endOfDigits_35 : decode cX8_endOfDigits 35 = .ok (.aload_n 0, 1) := by decide +kernel
theorem dX8_endOfDigits_36 : decode cX8_endOfDigits 36 = .ok (.getfield 12, 3) := by decide +kernel
theorem dX8_endOfDigits_39 : decode cX8_endOfDigits 39 = .ok (.iload_n 3, 1) := by decide +kernel
theorem dX8_endOfDigits_40 : decode cX8_endOfDigits 40 = .ok (.invokevirtual 86, 3) := by decide +kernel
theorem dX8_endOfDigits_43 : decode cX8_endOfDigits 43 = .ok (.bipush 57, 2) := by decide +kernel
theorem dX8_endOfDigits_45 : decode cX8_endOfDigits 45 = .ok (.if_icmp .gt 6, 3) := by decide +kernel
theorem dX8_endOfDigits_48 : decode cX8_endOfDigits 48 = .ok (.iinc 3 1, 3) := by decide +kernel
theorem dX8_endOfDigits_51 : decode cX8_endOfDigits 51 = .ok (.iinc 4 1, 3) := by decide +kernel
theorem dX8_endOfDigits_54 : decode cX8_endOfDigits 54 = .ok (.goto (-49), 3) := by decide +kernel
theorem dX8_endOfDigits_57 : decode cX8_endOfDigits 57 = .ok (.iload_n 3, 1) := by decide +kernel
theorem dX8_endOfDigits_58 : decode cX8_endOfDigits 58 = .ok (.ireturn, 1) := by decide +kernel
theorem dX8_numberBetween_0 : decode cX8_numberBetween 0 = .ok (.iconst 0, 1) := by decide +kernel
theorem dX8_numberBetween_1 : decode cX8_numberBetween 1 = .ok (.istore_n 3, 1) := by decide +kernel
theorem dX8_numberBetween_2 : decode cX8_numberBetween 2 = .ok (.iload_n 1, 1) := by decide +kernel
theorem dX8_numberBetween_3 : decode cX8_numberBetween 3 = .ok (.istore 4, 2) := by decide +kernel
theorem dX8_numberBetween_5 : decode cX8_numberBetween 5 = .ok (.iload 4, 2) := by decide +kernel
theorem dX8_numberBetween_7 : decode cX8_numberBetween 7 = .ok (.iload_n 2, 1) := by decide +kernel
theorem dX8_numberBetween_8 : decode cX8_numberBetween 8 = .ok (.if_icmp .ge 27, 3) := by decide +kernel
theorem dX8_numberBetween_11 : decode cX8_numberBetween 11 = .ok (.iload_n 3, 1) := by decide +kernel
theorem dX8_numberBetween_12 : decode cX8_numberBetween 12 = .ok (.bipush 10, 2) := by decide +kernel
theorem dX8_numberBetween_14 : decode cX8_numberBetween 14 = .ok (.imul, 1) := by decide +kernel
theorem dX8_numberBetween_15 : decode cX8_numberBetween 15 = .ok (.aload_n 0, 1) := by decide +kernel
theorem dX8_numberBetween_16 : decode cX8_numberBetween 16 = .ok (.getfield 12, 3) := by decide +kernel
theorem dX8_numberBetween_19 : decode cX8_numberBetween 19 = .ok (.iload 4, 2) := by decide +kernel
theorem dX8_numberBetween_21 : decode cX8_numberBetween 21 = .ok (.invokevirtual 86, 3) := by decide +kernel
theorem dX8_numberBetween_24 : decode cX8_numberBetween 24 = .ok (.bipush 48, 2) := by decide +kernel
theorem dX8_numberBetween_26 : decode cX8_numberBetween 26 = .ok (.isub, 1) := by decide +kernel
theorem dX8_numberBetween_27 : decode cX8_numberBetween 27 = .ok (.iadd, 1) := by decide +kernel
theorem dX8_numberBetween_28 : decode cX8_numberBetween 28 = .ok (.istore_n 3, 1) := by decide +kernel
theorem dX8_numberBetween_29 : decode cX8_numberBetween 29 = .ok (.iinc 4 1, 3) := by decide +kernel
theorem dX8_numberBetween_32 : decode cX8_numberBetween 32 = .ok (.goto (-27), 3) := by decide +kernel
theorem dX8_numberBetween_35 : decode cX8_numberBetween 35 = .ok (.iload_n 3, 1) := by decide +kernel
theorem dX8_numberBetween_36 : decode cX8_numberBetween 36 = .ok (.ireturn, 1) := by decide +kernel
theorem dX9_init_0 : decode cX9_init 0 = .ok (.aload_n 0, 1) := by decide +kernel
theorem dX9_init_1 : decode cX9_init 1 = .ok (.invokespecial 3, 3) := by decide +kernel
theorem dX9_init_4 : decode cX9_init 4 = .ok (.aload_n 0, 1) := by decide +kernel
theorem dX9_init_5 : decode cX9_init 5 = .ok (.new 9, 3) := by decide +kernel
theorem dX9_init_8 : decode cX9_init 8 = .ok (.dup, 1) := by decide +kernel
theorem dX9_init_9 : decode cX9_init 9 = .ok (.invokespecial 11, 3) := by decide +kernel
theorem dX9_init_12 : decode cX9_init 12 = .ok (.putfield 12, 3) := by decide +kernel
theorem dX9_init_15 : decode cX9_init 15 = .ok (.aload_n 0, 1) := by decide +kernel
theorem dX9_init_16 : decode cX9_init 16 = .ok (.new 9, 3) := by decide +kernel
theorem dX9_init_19 : decode cX9_init 19 = .ok (.dup, 1) := by decide +kernel
theorem dX9_init_20 : decode cX9_init 20 = .ok (.invokespecial 11, 3) := by decide +kernel
theorem dX9_init_23 : decode cX9_init 23 = .ok (.putfield 16, 3) := by decide +kernel
theorem dX9_init_26 : decode cX9_init 26 = .ok (.aload_n 0, 1) := by decide +kernel
theorem dX9_init_27 : decode cX9_init 27 = .ok (.new 9, 3) := by decide +kernel
theorem dX9_init_30 : decode cX9_init 30 = .ok (.dup, 1) := by decide +kernel
theorem dX9_init_31 : decode cX9_init 31 = .ok (.invokespecial 11, 3) := by decide +kernel
theorem dX9_init_34 : decode cX9_init 34 = .ok (.putfield 19, 3) := by decide +kernel
theorem dX9_init_37 : decode cX9_init 37 = .ok (.aload_n 0, 1) := by decide +kernel
theorem dX9_init_38 : decode cX9_init 38 = .ok (.new 22, 3) := by decide +kernel
theorem dX9_init_41 : decode cX9_init 41 = .ok (.dup, 1) := by decide +kernel
theorem dX9_init_42 : decode cX9_init 42 = .ok (.invokespecial 24, 3) := by decide +kernel
theorem dX9_init_45 : decode cX9_init 45 = .ok (.putfield 25, 3) := by decide +kernel
theorem dX9_init_48 : decode cX9_init 48 = .ok (.aload_n 0, 1) := by decide +kernel
theorem dX9_init_49 : decode cX9_init 49 = .ok (.new 29, 3) := by decide +kernel
theorem dX9_init_52 : decode cX9_init 52 = .ok (.dup, 1) := by decide +kernel
theorem dX9_init_53 : decode cX9_init 53 = .ok (.invokespecial 31, 3) := by decide +kernel
theorem dX9_init_56 : decode cX9_init 56 = .ok (.putfield 32, 3) := by decide +kernel
theorem dX9_init_59 : decode cX9_init 59 = .ok (.aload_n 0, 1) := by decide +kernel
theorem dX9_init_60 : decode cX9_init 60 = .ok (.new 36, 3) := by decide +kernel
theorem dX9_init_63 : decode cX9_init 63 = .ok (.dup, 1) := by decide +kernel
theorem dX9_init_64 : decode cX9_init 64 = .ok (.invokespecial 38, 3) := by decide +kernel
theorem dX9_init_67 : decode cX9_init 67 = .ok (.putfield 39, 3) := by decide +kernel
theorem dX9_init_70 : decode cX9_init 70 = .ok (.aload_n 0, 1) := by decide +kernel
theorem dX9_init_71 : decode cX9_init 71 = .ok (.bipush 46, 2) := by decide +kernel
theorem dX9_init_73 : decode cX9_init 73 = .ok (.newarray .int, 2) := by decide +kernel
theorem dX9_init_75 : decode cX9_init 75 = .ok (.putfield 43, 3) := by decide +kernel
theorem dX9_init_78 : decode cX9_init 78 = .ok (.aload_n 0, 1) := by decide +kernel
theorem dX9_init_79 : decode cX9_init 79 = .ok (.iconst 0, 1) := by decide +kernel
theorem dX9_init_80 : decode cX9_init 80 = .ok (.putfield 47, 3) := by decide +kernel
theorem dX9_init_83 : decode cX9_init 83 = .ok (.aload_n 0, 1) := by decide +kernel
theorem dX9_init_84 : decode cX9_init 84 = .ok (.iconst (-1), 1) := by decide +kernel
theorem dX9_init_85 : decode cX9_init 85 = .ok (.putfield 51, 3) := by decide +kernel
theorem dX9_init_88 : decode cX9_init 88 = .ok (.aload_n 0, 1) := by decide +kernel
theorem dX9_init_89 : decode cX9_init 89 = .ok (.iconst (-1), 1) := by decide +kernel
theorem dX9_init_90 : decode cX9_init 90 = .ok (.putfield 55, 3) := by decide +kernel
theorem dX9_init_93 : decode cX9_init 93 = .ok (.return_, 1) := by decide +kernel
theorem dX9_addGoblin_0 : decode cX9_addGoblin 0 = .ok (.aload_n 0, 1) := by decide +kernel
theorem dX9_addGoblin_1 : decode cX9_addGoblin 1 = .ok (.getfield 25, 3) := by decide +kernel
theorem dX9_addGoblin_4 : decode cX9_addGoblin 4 = .ok (.aload_n 0, 1) := by decide +kernel
theorem dX9_addGoblin_5 : decode cX9_addGoblin 5 = .ok (.getfield 12, 3) := by decide +kernel
theorem dX9_addGoblin_8 : decode cX9_addGoblin 8 = .ok (.invokevirtual 58, 3) := by decide +kernel
theorem dX9_addGoblin_11 : decode cX9_addGoblin 11 = .ok (.aload_n 0, 1) := by decide +kernel
theorem dX9_addGoblin_12 : decode cX9_addGoblin 12 = .ok (.aload_n 0, 1) := by decide +kernel
theorem dX9_addGoblin_13 : decode cX9_addGoblin 13 = .ok (.getfield 12, 3) := by decide +kernel
theorem dX9_addGoblin_16 : decode cX9_addGoblin 16 = .ok (.iload_n 1, 1) := by decide +kernel
theorem dX9_addGoblin_17 : decode cX9_addGoblin 17 = .ok (.invokevirtual 62, 3) := by decide +kernel
theorem dX9_addGoblin_20 : decode cX9_addGoblin 20 = .ok (.invokevirtual 66, 3) := by decide +kernel
theorem dX9_addGoblin_23 : decode cX9_addGoblin 23 = .ok (.ireturn, 1) := by decide +kernel
theorem dX9_addBroom_0 : decode cX9_addBroom 0 = .ok (.aload_n 0, 1) := by decide +kernel
theorem dX9_addBroom_1 : decode cX9_addBroom 1 = .ok (.getfield 25, 3) := by decide +kernel
theorem dX9_addBroom_4 : decode cX9_addBroom 4 = .ok (.aload_n 0, 1) := by decide +kernel
theorem dX9_addBroom_5 : decode cX9_addBroom 5 = .ok (.getfield 12, 3) := by decide +kernel
theorem dX9_addBroom_8 : decode cX9_addBroom 8 = .ok (.invokevirtual 58, 3) := by decide +kernel
theorem dX9_addBroom_11 : decode cX9_addBroom 11 = .ok (.aload_n 0, 1) := by decide +kernel
theorem dX9_addBroom_12 : decode cX9_addBroom 12 = .ok (.aload_n 0, 1) := by decide +kernel
theorem dX9_addBroom_13 : decode cX9_addBroom 13 = .ok (.getfield 12, 3) := by decide +kernel
theorem dX9_addBroom_16 : decode cX9_addBroom 16 = .ok (.iload_n 1, 1) := by decide +kernel
theorem dX9_addBroom_17 : decode cX9_addBroom 17 = .ok (.invokevirtual 69, 3) := by decide +kernel
theorem dX9_addBroom_20 : decode cX9_addBroom 20 = .ok (.invokevirtual 66, 3) := by decide +kernel
theorem dX9_addBroom_23 : decode cX9_addBroom 23 = .ok (.ireturn, 1) := by decide +kernel
theorem dX9_banishBroom_0 : decode cX9_banishBroom 0 = .ok (.aload_n 0, 1) := by decide +kernel
theorem dX9_banishBroom_1 : decode cX9_banishBroom 1 = .ok (.getfield 25, 3) := by decide +kernel
theorem dX9_banishBroom_4 : decode cX9_banishBroom 4 = .ok (.aload_n 0, 1) := by decide +kernel
theorem dX9_banishBroom_5 : decode cX9_banishBroom 5 = .ok (.getfield 12, 3) := by decide +kernel
theorem dX9_banishBroom_8 : decode cX9_banishBroom 8 = .ok (.invokevirtual 58, 3) := by decide +kernel
theorem dX9_banishBroom_11 : decode cX9_banishBroom 11 = .ok (.aload_n 0, 1) := by decide +kernel
theorem dX9_banishBroom_12 : decode cX9_banishBroom 12 = .ok (.aload_n 0, 1) := by decide +kernel
theorem dX9_banishBroom_13 : decode cX9_banishBroom 13 = .ok (.getfield 12, 3) := by decide +kernel
theorem dX9_banishBroom_16 : decode cX9_banishBroom 16 = .ok (.iload_n 1, 1) := by decide +kernel
theorem dX9_banishBroom_17 : decode cX9_banishBroom 17 = .ok (.invokevirtual 72, 3) := by decide +kernel
theorem dX9_banishBroom_20 : decode cX9_banishBroom 20 = .ok (.invokevirtual 66, 3) := by decide +kernel
theorem dX9_banishBroom_23 : decode cX9_banishBroom 23 = .ok (.ireturn, 1) := by decide +kernel
theorem dX9_recallBroom_0 : decode cX9_recallBroom 0 = .ok (.aload_n 0, 1) := by decide +kernel
theorem dX9_recallBroom_1 : decode cX9_recallBroom 1 = .ok (.getfield 25, 3) := by decide +kernel
theorem dX9_recallBroom_4 : decode cX9_recallBroom 4 = .ok (.aload_n 0, 1) := by decide +kernel
theorem dX9_recallBroom_5 : decode cX9_recallBroom 5 = .ok (.getfield 12, 3) := by decide +kernel
theorem dX9_recallBroom_8 : decode cX9_recallBroom 8 = .ok (.invokevirtual 58, 3) := by decide +kernel
theorem dX9_recallBroom_11 : decode cX9_recallBroom 11 = .ok (.aload_n 0, 1) := by decide +kernel
theorem dX9_recallBroom_12 : decode cX9_recallBroom 12 = .ok (.aload_n 0, 1) := by decide +kernel
theorem dX9_recallBroom_13 : decode cX9_recallBroom 13 = .ok (.getfield 12, 3) := by decide +kernel
theorem dX9_recallBroom_16 : decode cX9_recallBroom 16 = .ok (.iload_n 1, 1) := by decide +kernel
theorem dX9_recallBroom_17 : decode cX9_recallBroom 17 = .ok (.invokevirtual 75, 3) := by decide +kernel
theorem dX9_recallBroom_20 : decode cX9_recallBroom 20 = .ok (.invokevirtual 66, 3) := by decide +kernel
theorem dX9_recallBroom_23 : decode cX9_recallBroom 23 = .ok (.ireturn, 1) := by decide +kernel
theorem dX9_hire_0 : decode cX9_hire 0 = .ok (.aload_n 0, 1) := by decide +kernel
theorem dX9_hire_1 : decode cX9_hire 1 = .ok (.getfield 25, 3) := by decide +kernel
theorem dX9_hire_4 : decode cX9_hire 4 = .ok (.aload_n 0, 1) := by decide +kernel
theorem dX9_hire_5 : decode cX9_hire 5 = .ok (.getfield 12, 3) := by decide +kernel
theorem dX9_hire_8 : decode cX9_hire 8 = .ok (.invokevirtual 58, 3) := by decide +kernel
theorem dX9_hire_11 : decode cX9_hire 11 = .ok (.aload_n 0, 1) := by decide +kernel
theorem dX9_hire_12 : decode cX9_hire 12 = .ok (.aload_n 0, 1) := by decide +kernel
theorem dX9_hire_13 : decode cX9_hire 13 = .ok (.getfield 12, 3) := by decide +kernel
theorem dX9_hire_16 : decode cX9_hire 16 = .ok (.iload_n 1, 1) := by decide +kernel
theorem dX9_hire_17 : decode cX9_hire 17 = .ok (.iload_n 2, 1) := by decide +kernel
theorem dX9_hire_18 : decode cX9_hire 18 = .ok (.iload_n 3, 1) := by decide +kernel
theorem dX9_hire_19 : decode cX9_hire 19 = .ok (.iload 4, 2) := by decide +kernel
theorem dX9_hire_21 : decode cX9_hire 21 = .ok (.invokevirtual 78, 3) := by decide +kernel
theorem dX9_hire_24 : decode cX9_hire 24 = .ok (.invokevirtual 66, 3) := by decide +kernel
theorem dX9_hire_27 : decode cX9_hire 27 = .ok (.ireturn, 1) := by decide +kernel
theorem dX9_cancelContract_0 : decode cX9_cancelContract 0 = .ok (.aload_n 0, 1) := by decide +kernel
theorem dX9_cancelContract_1 : decode cX9_cancelContract 1 = .ok (.getfield 25, 3) := by decide +kernel
theorem dX9_cancelContract_4 : decode cX9_cancelContract 4 = .ok (.aload_n 0, 1) := by decide +kernel
theorem dX9_cancelContract_5 : decode cX9_cancelContract 5 = .ok (.getfield 12, 3) := by decide +kernel
theorem dX9_cancelContract_8 : decode cX9_cancelContract 8 = .ok (.invokevirtual 58, 3) := by decide +kernel
theorem dX9_cancelContract_11 : decode cX9_cancelContract 11 = .ok (.aload_n 0, 1) := by decide +kernel
theorem dX9_cancelContract_12 : decode cX9_cancelContract 12 = .ok (.aload_n 0, 1) := by decide +kernel
theorem dX9_cancelContract_13 : decode cX9_cancelContract 13 = .ok (.getfield 12, 3) := by decide +kernel
theorem dX9_cancelContract_16 : decode cX9_cancelContract 16 = .ok (.iload_n 1, 1) := by decide +kernel
theorem dX9_cancelContract_17 : decode cX9_cancelContract 17 = .ok (.invokevirtual 82, 3) := by decide +kernel
theorem dX9_cancelContract_20 : decode cX9_cancelContract 20 = .ok (.invokevirtual 66, 3) := by decide +kernel
theorem dX9_cancelContract_23 : decode cX9_cancelContract 23 = .ok (.ireturn, 1) := by decide +kernel
theorem dX9_rest_0 : decode cX9_rest 0 = .ok (.aload_n 0, 1) := by decide +kernel
theorem dX9_rest_1 : decode cX9_rest 1 = .ok (.getfield 25, 3) := by decide +kernel
theorem dX9_rest_4 : decode cX9_rest 4 = .ok (.aload_n 0, 1) := by decide +kernel
theorem dX9_rest_5 : decode cX9_rest 5 = .ok (.getfield 12, 3) := by decide +kernel
theorem dX9_rest_8 : decode cX9_rest 8 = .ok (.invokevirtual 58, 3) := by decide +kernel
theorem dX9_rest_11 : decode cX9_rest 11 = .ok (.aload_n 0, 1) := by decide +kernel
theorem dX9_rest_12 : decode cX9_rest 12 = .ok (.aload_n 0, 1) := by decide +kernel
theorem dX9_rest_13 : decode cX9_rest 13 = .ok (.getfield 12, 3) := by decide +kernel
theorem dX9_rest_16 : decode cX9_rest 16 = .ok (.iload_n 1, 1) := by decide +kernel
theorem dX9_rest_17 : decode cX9_rest 17 = .ok (.invokevirtual 85, 3) := by decide +kernel
theorem dX9_rest_20 : decode cX9_rest 20 = .ok (.invokevirtual 66, 3) := by decide +kernel
theorem dX9_rest_23 : decode cX9_rest 23 = .ok (.ireturn, 1) := by decide +kernel
theorem dX9_wake_0 : decode cX9_wake 0 = .ok (.aload_n 0, 1) := by decide +kernel
theorem dX9_wake_1 : decode cX9_wake 1 = .ok (.getfield 25, 3) := by decide +kernel
theorem dX9_wake_4 : decode cX9_wake 4 = .ok (.aload_n 0, 1) := by decide +kernel
theorem dX9_wake_5 : decode cX9_wake 5 = .ok (.getfield 12, 3) := by decide +kernel
theorem dX9_wake_8 : decode cX9_wake 8 = .ok (.invokevirtual 58, 3) := by decide +kernel
theorem dX9_wake_11 : decode cX9_wake 11 = .ok (.aload_n 0, 1) := by decide +kernel
theorem dX9_wake_12 : decode cX9_wake 12 = .ok (.aload_n 0, 1) := by decide +kernel
theorem dX9_wake_13 : decode cX9_wake 13 = .ok (.getfield 12, 3) := by decide +kernel
theorem dX9_wake_16 : decode cX9_wake 16 = .ok (.iload_n 1, 1) := by decide +kernel
theorem dX9_wake_17 : decode cX9_wake 17 = .ok (.invokevirtual 88, 3) := by decide +kernel
theorem dX9_wake_20 : decode cX9_wake 20 = .ok (.invokevirtual 66, 3) := by decide +kernel
theorem dX9_wake_23 : decode cX9_wake 23 = .ok (.ireturn, 1) := by decide +kernel
theorem dX9_lend_0 : decode cX9_lend 0 = .ok (.aload_n 0, 1) := by decide +kernel
theorem dX9_lend_1 : decode cX9_lend 1 = .ok (.getfield 25, 3) := by decide +kernel
theorem dX9_lend_4 : decode cX9_lend 4 = .ok (.aload_n 0, 1) := by decide +kernel
theorem dX9_lend_5 : decode cX9_lend 5 = .ok (.getfield 12, 3) := by decide +kernel
theorem dX9_lend_8 : decode cX9_lend 8 = .ok (.invokevirtual 58, 3) := by decide +kernel
theorem dX9_lend_11 : decode cX9_lend 11 = .ok (.aload_n 0, 1) := by decide +kernel
theorem dX9_lend_12 : decode cX9_lend 12 = .ok (.aload_n 0, 1) := by decide +kernel
theorem dX9_lend_13 : decode cX9_lend 13 = .ok (.getfield 12, 3) := by decide +kernel
theorem dX9_lend_16 : decode cX9_lend 16 = .ok (.iload_n 1, 1) := by decide +kernel
theorem dX9_lend_17 : decode cX9_lend 17 = .ok (.iload_n 2, 1) := by decide +kernel
theorem dX9_lend_18 : decode cX9_lend 18 = .ok (.invokevirtual 91, 3) := by decide +kernel
theorem dX9_lend_21 : decode cX9_lend 21 = .ok (.invokevirtual 66, 3) := by decide +kernel
theorem dX9_lend_24 : decode cX9_lend 24 = .ok (.ireturn, 1) := by decide +kernel
theorem dX9_fund_0 : decode cX9_fund 0 = .ok (.aload_n 0, 1) := by decide +kernel
theorem dX9_fund_1 : decode cX9_fund 1 = .ok (.getfield 25, 3) := by decide +kernel
theorem dX9_fund_4 : decode cX9_fund 4 = .ok (.aload_n 0, 1) := by decide +kernel
theorem dX9_fund_5 : decode cX9_fund 5 = .ok (.getfield 12, 3) := by decide +kernel
theorem dX9_fund_8 : decode cX9_fund 8 = .ok (.invokevirtual 58, 3) := by decide +kernel
theorem dX9_fund_11 : decode cX9_fund 11 = .ok (.aload_n 0, 1) := by decide +kernel
theorem dX9_fund_12 : decode cX9_fund 12 = .ok (.aload_n 0, 1) := by decide +kernel
theorem dX9_fund_13 : decode cX9_fund 13 = .ok (.getfield 12, 3) := by decide +kernel
theorem dX9_fund_16 : decode cX9_fund 16 = .ok (.iload_n 1, 1) := by decide +kernel
theorem dX9_fund_17 : decode cX9_fund 17 = .ok (.invokevirtual 95, 3) := by decide +kernel
theorem dX9_fund_20 : decode cX9_fund 20 = .ok (.invokevirtual 66, 3) := by decide +kernel
theorem dX9_fund_23 : decode cX9_fund 23 = .ok (.ireturn, 1) := by decide +kernel
theorem dX9_spend_0 : decode cX9_spend 0 = .ok (.aload_n 0, 1) := by decide +kernel
theorem dX9_spend_1 : decode cX9_spend 1 = .ok (.getfield 25, 3) := by decide +kernel
theorem dX9_spend_4 : decode cX9_spend 4 = .ok (.aload_n 0, 1) := by decide +kernel
theorem dX9_spend_5 : decode cX9_spend 5 = .ok (.getfield 12, 3) := by decide +kernel
theorem dX9_spend_8 : decode cX9_spend 8 = .ok (.invokevirtual 58, 3) := by decide +kernel
theorem dX9_spend_11 : decode cX9_spend 11 = .ok (.aload_n 0, 1) := by decide +kernel
theorem dX9_spend_12 : decode cX9_spend 12 = .ok (.aload_n 0, 1) := by decide +kernel
theorem dX9_spend_13 : decode cX9_spend 13 = .ok (.getfield 12, 3) := by decide +kernel
theorem dX9_spend_16 : decode cX9_spend 16 = .ok (.iload_n 1, 1) := by decide +kernel
theorem dX9_spend_17 : decode cX9_spend 17 = .ok (.invokevirtual 98, 3) := by decide +kernel
theorem dX9_spend_20 : decode cX9_spend 20 = .ok (.invokevirtual 66, 3) := by decide +kernel
theorem dX9_spend_23 : decode cX9_spend 23 = .ok (.ireturn, 1) := by decide +kernel
theorem dX9_passNights_0 : decode cX9_passNights 0 = .ok (.aload_n 0, 1) := by decide +kernel
theorem dX9_passNights_1 : decode cX9_passNights 1 = .ok (.getfield 25, 3) := by decide +kernel
theorem dX9_passNights_4 : decode cX9_passNights 4 = .ok (.aload_n 0, 1) := by decide +kernel
theorem dX9_passNights_5 : decode cX9_passNights 5 = .ok (.getfield 12, 3) := by decide +kernel
theorem dX9_passNights_8 : decode cX9_passNights 8 = .ok (.invokevirtual 58, 3) := by decide +kernel
theorem dX9_passNights_11 : decode cX9_passNights 11 = .ok (.aload_n 0, 1) := by decide +kernel
theorem dX9_passNights_12 : decode cX9_passNights 12 = .ok (.aload_n 0, 1) := by decide +kernel
theorem dX9_passNights_13 : decode cX9_passNights 13 = .ok (.getfield 12, 3) := by decide +kernel
theorem dX9_passNights_16 : decode cX9_passNights 16 = .ok (.iload_n 1, 1) := by decide +kernel
theorem dX9_passNights_17 : decode cX9_passNights 17 = .ok (.invokevirtual 101, 3) := by decide +kernel
theorem dX9_passNights_20 : decode cX9_passNights 20 = .ok (.invokevirtual 66, 3) := by decide +kernel
theorem dX9_passNights_23 : decode cX9_passNights 23 = .ok (.ireturn, 1) := by decide +kernel
theorem dX9_finishChange_0 : decode cX9_finishChange 0 = .ok (.iload_n 1, 1) := by decide +kernel
theorem dX9_finishChange_1 : decode cX9_finishChange 1 = .ok (.tableswitch 85 (-5) (-1) #[75, 65, 55, 45, 35], 35) := by decide +kernel
theorem dX9_finishChange_36 : decode cX9_finishChange 36 = .ok (.new 104, 3) := by decide +kernel
theorem dX9_finishChange_39 : decode cX9_finishChange 39 = .ok (.dup, 1) := by decide +kernel
theorem dX9_finishChange_40 : decode cX9_finishChange 40 = .ok (.ldc 106, 2) := by decide +kernel
theorem dX9_finishChange_42 : decode cX9_finishChange 42 = .ok (.invokespecial 108, 3) := by decide +kernel
theorem dX9_finishChange_45 : decode cX9_finishChange 45 = .ok (.athrow, 1) := by decide +kernel
theorem dX9_finishChange_46 : decode cX9_finishChange 46 = .ok (.new 111, 3) := by decide +kernel
theorem dX9_finishChange_49 : decode cX9_finishChange 49 = .ok (.dup, 1) := by decide +kernel
theorem dX9_finishChange_50 : decode cX9_finishChange 50 = .ok (.ldc 113, 2) := by decide +kernel
theorem dX9_finishChange_52 : decode cX9_finishChange 52 = .ok (.invokespecial 115, 3) := by decide +kernel
theorem dX9_finishChange_55 : decode cX9_finishChange 55 = .ok (.athrow, 1) := by decide +kernel
theorem dX9_finishChange_56 : decode cX9_finishChange 56 = .ok (.new 116, 3) := by decide +kernel
theorem dX9_finishChange_59 : decode cX9_finishChange 59 = .ok (.dup, 1) := by decide +kernel
theorem dX9_finishChange_60 : decode cX9_finishChange 60 = .ok (.ldc 118, 2) := by decide +kernel
theorem dX9_finishChange_62 : decode cX9_finishChange 62 = .ok (.invokespecial 120, 3) := by decide +kernel
theorem dX9_finishChange_65 : decode cX9_finishChange 65 = .ok (.athrow, 1) := by decide +kernel
theorem dX9_finishChange_66 : decode cX9_finishChange 66 = .ok (.new 121, 3) := by decide +kernel
theorem dX9_finishChange_69 : decode cX9_finishChange 69 = .ok (.dup, 1) := by decide +kernel
theorem dX9_finishChange_70 : decode cX9_finishChange 70 = .ok (.ldc 123, 2) := by decide +kernel
theorem dX9_finishChange_72 : decode cX9_finishChange 72 = .ok (.invokespecial 125, 3) := by decide +kernel
theorem dX9_finishChange_75 : decode cX9_finishChange 75 = .ok (.athrow, 1) := by decide +kernel
theorem dX9_finishChange_76 : decode cX9_finishChange 76 = .ok (.new 126, 3) := by decide +kernel
theorem dX9_finishChange_79 : decode cX9_finishChange 79 = .ok (.dup, 1) := by decide +kernel
theorem dX9_finishChange_80 : decode cX9_finishChange 80 = .ok (.ldc 128, 2) := by decide +kernel
theorem dX9_finishChange_82 : decode cX9_finishChange 82 = .ok (.invokespecial 130, 3) := by decide +kernel
theorem dX9_finishChange_85 : decode cX9_finishChange 85 = .ok (.athrow, 1) := by decide +kernel
theorem dX9_finishChange_86 : decode cX9_finishChange 86 = .ok (.aload_n 0, 1) := by decide +kernel
theorem dX9_finishChange_87 : decode cX9_finishChange 87 = .ok (.getfield 25, 3) := by decide +kernel
theorem dX9_finishChange_90 : decode cX9_finishChange 90 = .ok (.invokevirtual 131, 3) := by decide +kernel
theorem dX9_finishChange_93 : decode cX9_finishChange 93 = .ok (.iload_n 1, 1) := by decide +kernel
theorem dX9_finishChange_94 : decode cX9_finishChange 94 = .ok (.ireturn, 1) := by decide +kernel
theorem dX9_dust_0 : decode cX9_dust 0 = .ok (.iload_n 1, 1) := by decide +kernel
theorem dX9_dust_1 : decode cX9_dust 1 = .ok (.ifCond .lt 9, 3) := by decide +kernel
theorem dX9_dust_4 : decode cX9_dust 4 = .ok (.iload_n 1, 1) := by decide +kernel
theorem dX9_dust_5 : decode cX9_dust 5 = .ok (.bipush 6, 2) := by decide +kernel
theorem dX9_dust_7 : decode cX9_dust 7 = .ok (.if_icmp .lt 13, 3) := by decide +kernel
theorem dX9_dust_10 : decode cX9_dust 10 = .ok (.new 104, 3) := by decide +kernel
theorem dX9_dust_13 : decode cX9_dust 13 = .ok (.dup, 1) := by decide +kernel
theorem dX9_dust_14 : decode cX9_dust 14 = .ok (.ldc 134, 2) := by decide +kernel
theorem dX9_dust_16 : decode cX9_dust 16 = .ok (.invokespecial 108, 3) := by decide +kernel
theorem dX9_dust_19 : decode cX9_dust 19 = .ok (.athrow, 1) := by decide +kernel
theorem dX9_dust_20 : decode cX9_dust 20 = .ok (.aload_n 0, 1) := by decide +kernel
theorem dX9_dust_21 : decode cX9_dust 21 = .ok (.getfield 12, 3) := by decide +kernel
theorem dX9_dust_24 : decode cX9_dust 24 = .ok (.getfield 136, 3) := by decide +kernel
theorem dX9_dust_27 : decode cX9_dust 27 = .ok (.iload_n 1, 1) := by decide +kernel
theorem dX9_dust_28 : decode cX9_dust 28 = .ok (.iaload, 1) := by decide +kernel
theorem dX9_dust_29 : decode cX9_dust 29 = .ok (.ireturn, 1) := by decide +kernel
theorem dX9_roomByDust_0 : decode cX9_roomByDust 0 = .ok (.iconst 0, 1) := by decide +kernel
theorem dX9_roomByDust_1 : decode cX9_roomByDust 1 = .ok (.istore_n 2, 1) := by decide +kernel
theorem dX9_roomByDust_2 : decode cX9_roomByDust 2 = .ok (.iload_n 2, 1) := by decide +kernel
theorem dX9_roomByDust_3 : decode cX9_roomByDust 3 = .ok (.bipush 6, 2) := by decide +kernel
theorem dX9_roomByDust_5 : decode cX9_roomByDust 5 = .ok (.if_icmp .ge 23, 3) := by decide +kernel
theorem dX9_roomByDust_8 : decode cX9_roomByDust 8 = .ok (.aload_n 0, 1) := by decide +kernel
theorem dX9_roomByDust_9 : decode cX9_roomByDust 9 = .ok (.getfield 12, 3) := by decide +kernel
theorem dX9_roomByDust_12 : decode cX9_roomByDust 12 = .ok (.iload_n 2, 1) := by decide +kernel
theorem dX9_roomByDust_13 : decode cX9_roomByDust 13 = .ok (.invokevirtual 139, 3) := by decide +kernel
theorem dX9_roomByDust_16 : decode cX9_roomByDust 16 = .ok (.iload_n 1, 1) := by decide +kernel
theorem dX9_roomByDust_17 : decode cX9_roomByDust 17 = .ok (.if_icmp .ne 5, 3) := by decide +kernel
theorem dX9_roomByDust_20 : decode cX9_roomByDust 20 = .ok (.iload_n 2, 1) := by decide +kernel
theorem dX9_roomByDust_21 : decode cX9_roomByDust 21 = .ok (.ireturn, 1) := by decide +kernel
theorem dX9_roomByDust_22 : decode cX9_roomByDust 22 = .ok (.iinc 2 1, 3) := by decide +kernel
theorem dX9_roomByDust_25 : decode cX9_roomByDust 25 = .ok (.goto (-23), 3) := by decide +kernel
theorem dX9_roomByDust_28 : decode cX9_roomByDust 28 = .ok (.new 126, 3) := by decide +kernel
theorem dX9_roomByDust_31 : decode cX9_roomByDust 31 = .ok (.dup, 1) := by decide +kernel
theorem dX9_roomByDust_32 : decode cX9_roomByDust 32 = .ok (.ldc 142, 2) := by decide +kernel
theorem dX9_roomByDust_34 : decode cX9_roomByDust 34 = .ok (.invokespecial 130, 3) := by decide +kernel
theorem dX9_roomByDust_37 : decode cX9_roomByDust 37 = .ok (.athrow, 1) := by decide +kernel
theorem dX9_broomCount_0 : decode cX9_broomCount 0 = .ok (.aload_n 0, 1) := by decide +kernel
theorem dX9_broomCount_1 : decode cX9_broomCount 1 = .ok (.getfield 12, 3) := by decide +kernel
theorem dX9_broomCount_4 : decode cX9_broomCount 4 = .ok (.getfield 144, 3) := by decide +kernel
theorem dX9_broomCount_7 : decode cX9_broomCount 7 = .ok (.getfield 148, 3) := by decide +kernel
theorem dX9_broomCount_10 : decode cX9_broomCount 10 = .ok (.ireturn, 1) := by decide +kernel
theorem dX9_power_0 : decode cX9_power 0 = .ok (.aload_n 0, 1) := by decide +kernel
theorem dX9_power_1 : decode cX9_power 1 = .ok (.iload_n 1, 1) := by decide +kernel
theorem dX9_power_2 : decode cX9_power 2 = .ok (.invokevirtual 153, 3) := by decide +kernel
theorem dX9_power_5 : decode cX9_power 5 = .ok (.aload_n 0, 1) := by decide +kernel
theorem dX9_power_6 : decode cX9_power 6 = .ok (.getfield 12, 3) := by decide +kernel
theorem dX9_power_9 : decode cX9_power 9 = .ok (.getfield 144, 3) := by decide +kernel
theorem dX9_power_12 : decode cX9_power 12 = .ok (.getfield 157, 3) := by decide +kernel
theorem dX9_power_15 : decode cX9_power 15 = .ok (.iload_n 1, 1) := by decide +kernel
theorem dX9_power_16 : decode cX9_power 16 = .ok (.iaload, 1) := by decide +kernel
theorem dX9_power_17 : decode cX9_power 17 = .ok (.ireturn, 1) := by decide +kernel
theorem dX9_isBanished_0 : decode cX9_isBanished 0 = .ok (.aload_n 0, 1) := by decide +kernel
theorem dX9_isBanished_1 : decode cX9_isBanished 1 = .ok (.iload_n 1, 1) := by decide +kernel
theorem dX9_isBanished_2 : decode cX9_isBanished 2 = .ok (.invokevirtual 153, 3) := by decide +kernel
theorem dX9_isBanished_5 : decode cX9_isBanished 5 = .ok (.aload_n 0, 1) := by decide +kernel
theorem dX9_isBanished_6 : decode cX9_isBanished 6 = .ok (.getfield 12, 3) := by decide +kernel
theorem dX9_isBanished_9 : decode cX9_isBanished 9 = .ok (.getfield 144, 3) := by decide +kernel
theorem dX9_isBanished_12 : decode cX9_isBanished 12 = .ok (.getfield 160, 3) := by decide +kernel
theorem dX9_isBanished_15 : decode cX9_isBanished 15 = .ok (.iload_n 1, 1) := by decide +kernel
theorem dX9_isBanished_16 : decode cX9_isBanished 16 = .ok (.baload, 1) := by decide +kernel
theorem dX9_isBanished_17 : decode cX9_isBanished 17 = .ok (.ireturn, 1) := by decide +kernel
theorem dX9_checkBroom_0 : decode cX9_checkBroom 0 = .ok (.aload_n 0, 1) := by decide +kernel
theorem dX9_checkBroom_1 : decode cX9_checkBroom 1 = .ok (.getfield 12, 3) := by decide +kernel
theorem dX9_checkBroom_4 : decode cX9_checkBroom 4 = .ok (.getfield 144, 3) := by decide +kernel
theorem dX9_checkBroom_7 : decode cX9_checkBroom 7 = .ok (.iload_n 1, 1) := by decide +kernel
theorem dX9_checkBroom_8 : decode cX9_checkBroom 8 = .ok (.invokevirtual 164, 3) := by decide +kernel
theorem dX9_checkBroom_11 : decode cX9_checkBroom 11 = .ok (.ifCond .ne 13, 3) := by decide +kernel
theorem dX9_checkBroom_14 : decode cX9_checkBroom 14 = .ok (.new 104, 3) := by decide +kernel
theorem dX9_checkBroom_17 : decode cX9_checkBroom 17 = .ok (.dup, 1) := by decide +kernel
theorem dX9_checkBroom_18 : decode cX9_checkBroom 18 = .ok (.ldc 168, 2) := by decide +kernel
theorem dX9_checkBroom_20 : decode cX9_checkBroom 20 = .ok (.invokespecial 108, 3) := by decide +kernel
theorem dX9_checkBroom_23 : decode cX9_checkBroom 23 = .ok (.athrow, 1) := by decide +kernel
theorem dX9_checkBroom_24 : decode cX9_checkBroom 24 = .ok (.return_, 1) := by decide +kernel
theorem dX9_goblinCount_0 : decode cX9_goblinCount 0 = .ok (.aload_n 0, 1) := by decide +kernel
theorem dX9_goblinCount_1 : decode cX9_goblinCount 1 = .ok (.getfield 12, 3) := by decide +kernel
theorem dX9_goblinCount_4 : decode cX9_goblinCount 4 = .ok (.getfield 170, 3) := by decide +kernel
theorem dX9_goblinCount_7 : decode cX9_goblinCount 7 = .ok (.getfield 174, 3) := by decide +kernel
theorem dX9_goblinCount_10 : decode cX9_goblinCount 10 = .ok (.ireturn, 1) := by decide +kernel
theorem dX9_strength_0 : decode cX9_strength 0 = .ok (.aload_n 0, 1) := by decide +kernel
theorem dX9_strength_1 : decode cX9_strength 1 = .ok (.iload_n 1, 1) := by decide +kernel
theorem dX9_strength_2 : decode cX9_strength 2 = .ok (.invokevirtual 177, 3) := by decide +kernel
theorem dX9_strength_5 : decode cX9_strength 5 = .ok (.aload_n 0, 1) := by decide +kernel
theorem dX9_strength_6 : decode cX9_strength 6 = .ok (.getfield 12, 3) := by decide +kernel
theorem dX9_strength_9 : decode cX9_strength 9 = .ok (.getfield 170, 3) := by decide +kernel
theorem dX9_strength_12 : decode cX9_strength 12 = .ok (.getfield 180, 3) := by decide +kernel
theorem dX9_strength_15 : decode cX9_strength 15 = .ok (.iload_n 1, 1) := by decide +kernel
theorem dX9_strength_16 : decode cX9_strength 16 = .ok (.iaload, 1) := by decide +kernel
theorem dX9_strength_17 : decode cX9_strength 17 = .ok (.ireturn, 1) := by decide +kernel
theorem dX9_purse_0 : decode cX9_purse 0 = .ok (.aload_n 0, 1) := by decide +kernel
theorem dX9_purse_1 : decode cX9_purse 1 = .ok (.iload_n 1, 1) := by decide +kernel
theorem dX9_purse_2 : decode cX9_purse 2 = .ok (.invokevirtual 177, 3) := by decide +kernel
theorem dX9_purse_5 : decode cX9_purse 5 = .ok (.aload_n 0, 1) := by decide +kernel
theorem dX9_purse_6 : decode cX9_purse 6 = .ok (.getfield 12, 3) := by decide +kernel
theorem dX9_purse_9 : decode cX9_purse 9 = .ok (.getfield 170, 3) := by decide +kernel
theorem dX9_purse_12 : decode cX9_purse 12 = .ok (.getfield 183, 3) := by decide +kernel
theorem dX9_purse_15 : decode cX9_purse 15 = .ok (.iload_n 1, 1) := by decide +kernel
theorem dX9_purse_16 : decode cX9_purse 16 = .ok (.iaload, 1) := by decide +kernel
theorem dX9_purse_17 : decode cX9_purse 17 = .ok (.ireturn, 1) := by decide +kernel
theorem dX9_debt_0 : decode cX9_debt 0 = .ok (.aload_n 0, 1) := by decide +kernel
theorem dX9_debt_1 : decode cX9_debt 1 = .ok (.iload_n 1, 1) := by decide +kernel
theorem dX9_debt_2 : decode cX9_debt 2 = .ok (.invokevirtual 177, 3) := by decide +kernel
theorem dX9_debt_5 : decode cX9_debt 5 = .ok (.aload_n 0, 1) := by decide +kernel
theorem dX9_debt_6 : decode cX9_debt 6 = .ok (.getfield 12, 3) := by decide +kernel
theorem dX9_debt_9 : decode cX9_debt 9 = .ok (.getfield 170, 3) := by decide +kernel
theorem dX9_debt_12 : decode cX9_debt 12 = .ok (.getfield 186, 3) := by decide +kernel
theorem dX9_debt_15 : decode cX9_debt 15 = .ok (.iload_n 1, 1) := by decide +kernel
theorem dX9_debt_16 : decode cX9_debt 16 = .ok (.iaload, 1) := by decide +kernel
theorem dX9_debt_17 : decode cX9_debt 17 = .ok (.ireturn, 1) := by decide +kernel
theorem dX9_skippedNights_0 : decode cX9_skippedNights 0 = .ok (.aload_n 0, 1) := by decide +kernel
theorem dX9_skippedNights_1 : decode cX9_skippedNights 1 = .ok (.iload_n 1, 1) := by decide +kernel
theorem dX9_skippedNights_2 : decode cX9_skippedNights 2 = .ok (.invokevirtual 177, 3) := by decide +kernel
theorem dX9_skippedNights_5 : decode cX9_skippedNights 5 = .ok (.aload_n 0, 1) := by decide +kernel
theorem dX9_skippedNights_6 : decode cX9_skippedNights 6 = .ok (.getfield 12, 3) := by decide +kernel
theorem dX9_skippedNights_9 : decode cX9_skippedNights 9 = .ok (.getfield 170, 3) := by decide +kernel
theorem dX9_skippedNights_12 : decode cX9_skippedNights 12 = .ok (.getfield 189, 3) := by decide +kernel
theorem dX9_skippedNights_15 : decode cX9_skippedNights 15 = .ok (.iload_n 1, 1) := by decide +kernel
theorem dX9_skippedNights_16 : decode cX9_skippedNights 16 = .ok (.iaload, 1) := by decide +kernel
theorem dX9_skippedNights_17 : decode cX9_skippedNights 17 = .ok (.ireturn, 1) := by decide +kernel
theorem dX9_isResting_0 : decode cX9_isResting 0 = .ok (.aload_n 0, 1) := by decide +kernel
theorem dX9_isResting_1 : decode cX9_isResting 1 = .ok (.iload_n 1, 1) := by decide +kernel
theorem dX9_isResting_2 : decode cX9_isResting 2 = .ok (.invokevirtual 177, 3) := by decide +kernel
theorem dX9_isResting_5 : decode cX9_isResting 5 = .ok (.aload_n 0, 1) := by decide +kernel
theorem dX9_isResting_6 : decode cX9_isResting 6 = .ok (.getfield 12, 3) := by decide +kernel
theorem dX9_isResting_9 : decode cX9_isResting 9 = .ok (.getfield 170, 3) := by decide +kernel
theorem dX9_isResting_12 : decode cX9_isResting 12 = .ok (.getfield 192, 3) := by decide +kernel
theorem dX9_isResting_15 : decode cX9_isResting 15 = .ok (.iload_n 1, 1) := by decide +kernel
theorem dX9_isResting_16 : decode cX9_isResting 16 = .ok (.baload, 1) := by decide +kernel
theorem dX9_isResting_17 : decode cX9_isResting 17 = .ok (.ireturn, 1) := by decide +kernel
theorem dX9_energy_0 : decode cX9_energy 0 = .ok (.aload_n 0, 1) := by decide +kernel
theorem dX9_energy_1 : decode cX9_energy 1 = .ok (.iload_n 1, 1) := by decide +kernel
theorem dX9_energy_2 : decode cX9_energy 2 = .ok (.invokevirtual 177, 3) := by decide +kernel
theorem dX9_energy_5 : decode cX9_energy 5 = .ok (.aload_n 0, 1) := by decide +kernel
theorem dX9_energy_6 : decode cX9_energy 6 = .ok (.getfield 12, 3) := by decide +kernel
theorem dX9_energy_9 : decode cX9_energy 9 = .ok (.iload_n 1, 1) := by decide +kernel
theorem dX9_energy_10 : decode cX9_energy 10 = .ok (.invokevirtual 195, 3) := by decide +kernel
theorem dX9_energy_13 : decode cX9_energy 13 = .ok (.ireturn, 1) := by decide +kernel
theorem dX9_goblinByWealth_0 : decode cX9_goblinByWealth 0 = .ok (.iconst 0, 1) := by decide +kernel
theorem dX9_goblinByWealth_1 : decode cX9_goblinByWealth 1 = .ok (.istore_n 2, 1) := by decide +kernel
theorem dX9_goblinByWealth_2 : decode cX9_goblinByWealth 2 = .ok (.iload_n 2, 1) := by decide +kernel
theorem dX9_goblinByWealth_3 : decode cX9_goblinByWealth 3 = .ok (.aload_n 0, 1) := by decide +kernel
theorem dX9_goblinByWealth_4 : decode cX9_goblinByWealth 4 = .ok (.getfield 12, 3) := by decide +kernel
theorem dX9_goblinByWealth_7 : decode cX9_goblinByWealth 7 = .ok (.getfield 170, 3) := by decide +kernel
theorem dX9_goblinByWealth_10 : decode cX9_goblinByWealth 10 = .ok (.getfield 174, 3) := by decide +kernel
theorem dX9_goblinByWealth_13 : decode cX9_goblinByWealth 13 = .ok (.if_icmp .ge 26, 3) := by decide +kernel
theorem dX9_goblinByWealth_16 : decode cX9_goblinByWealth 16 = .ok (.aload_n 0, 1) := by decide +kernel
theorem dX9_goblinByWealth_17 : decode cX9_goblinByWealth 17 = .ok (.getfield 12, 3) := by decide +kernel
theorem dX9_goblinByWealth_20 : decode cX9_goblinByWealth 20 = .ok (.getfield 170, 3) := by decide +kernel
theorem dX9_goblinByWealth_23 : decode cX9_goblinByWealth 23 = .ok (.iload_n 2, 1) := by decide +kernel
theorem dX9_goblinByWealth_24 : decode cX9_goblinByWealth 24 = .ok (.invokevirtual 198, 3) := by decide +kernel
theorem dX9_goblinByWealth_27 : decode cX9_goblinByWealth 27 = .ok (.iload_n 1, 1) := by decide +kernel
theorem dX9_goblinByWealth_28 : decode cX9_goblinByWealth 28 = .ok (.if_icmp .ne 5, 3) := by decide +kernel
theorem dX9_goblinByWealth_31 : decode cX9_goblinByWealth 31 = .ok (.iload_n 2, 1) := by decide +kernel
theorem dX9_goblinByWealth_32 : decode cX9_goblinByWealth 32 = .ok (.ireturn, 1) := by decide +kernel
theorem dX9_goblinByWealth_33 : decode cX9_goblinByWealth 33 = .ok (.iinc 2 1, 3) := by decide +kernel
theorem dX9_goblinByWealth_36 : decode cX9_goblinByWealth 36 = .ok (.goto (-34), 3) := by decide +kernel
theorem dX9_goblinByWealth_39 : decode cX9_goblinByWealth 39 = .ok (.new 126, 3) := by decide +kernel
theorem dX9_goblinByWealth_42 : decode cX9_goblinByWealth 42 = .ok (.dup, 1) := by decide +kernel
theorem dX9_goblinByWealth_43 : decode cX9_goblinByWealth 43 = .ok (.ldc 142, 2) := by decide +kernel
theorem dX9_goblinByWealth_45 : decode cX9_goblinByWealth 45 = .ok (.invokespecial 130, 3) := by decide +kernel
theorem dX9_goblinByWealth_48 : decode cX9_goblinByWealth 48 = .ok (.athrow, 1) := by decide +kernel
theorem dX9_bestWages_0 : decode cX9_bestWages 0 = .ok (.aload_n 0, 1) := by decide +kernel
theorem dX9_bestWages_1 : decode cX9_bestWages 1 = .ok (.iload_n 1, 1) := by decide +kernel
theorem dX9_bestWages_2 : decode cX9_bestWages 2 = .ok (.invokevirtual 177, 3) := by decide +kernel
theorem dX9_bestWages_5 : decode cX9_bestWages 5 = .ok (.aload_n 0, 1) := by decide +kernel
theorem dX9_bestWages_6 : decode cX9_bestWages 6 = .ok (.getfield 12, 3) := by decide +kernel
theorem dX9_bestWages_9 : decode cX9_bestWages 9 = .ok (.getfield 201, 3) := by decide +kernel
theorem dX9_bestWages_12 : decode cX9_bestWages 12 = .ok (.iload_n 1, 1) := by decide +kernel
theorem dX9_bestWages_13 : decode cX9_bestWages 13 = .ok (.aload_n 0, 1) := by decide +kernel
theorem dX9_bestWages_14 : decode cX9_bestWages 14 = .ok (.getfield 12, 3) := by decide +kernel
theorem dX9_bestWages_17 : decode cX9_bestWages 17 = .ok (.iload_n 1, 1) := by decide +kernel
theorem dX9_bestWages_18 : decode cX9_bestWages 18 = .ok (.invokevirtual 195, 3) := by decide +kernel
theorem dX9_bestWages_21 : decode cX9_bestWages 21 = .ok (.invokevirtual 205, 3) := by decide +kernel
theorem dX9_bestWages_24 : decode cX9_bestWages 24 = .ok (.ireturn, 1) := by decide +kernel
theorem dX9_bestWagesByTable_0 : decode cX9_bestWagesByTable 0 = .ok (.aload_n 0, 1) := by decide +kernel
theorem dX9_bestWagesByTable_1 : decode cX9_bestWagesByTable 1 = .ok (.iload_n 1, 1) := by decide +kernel
theorem dX9_bestWagesByTable_2 : decode cX9_bestWagesByTable 2 = .ok (.invokevirtual 177, 3) := by decide +kernel
theorem dX9_bestWagesByTable_5 : decode cX9_bestWagesByTable 5 = .ok (.aload_n 0, 1) := by decide +kernel
theorem dX9_bestWagesByTable_6 : decode cX9_bestWagesByTable 6 = .ok (.getfield 12, 3) := by decide +kernel
theorem dX9_bestWagesByTable_9 : decode cX9_bestWagesByTable 9 = .ok (.getfield 201, 3) := by decide +kernel
theorem dX9_bestWagesByTable_12 : decode cX9_bestWagesByTable 12 = .ok (.iload_n 1, 1) := by decide +kernel
theorem dX9_bestWagesByTable_13 : decode cX9_bestWagesByTable 13 = .ok (.aload_n 0, 1) := by decide +kernel
theorem dX9_bestWagesByTable_14 : decode cX9_bestWagesByTable 14 = .ok (.getfield 12, 3) := by decide +kernel
theorem dX9_bestWagesByTable_17 : decode cX9_bestWagesByTable 17 = .ok (.iload_n 1, 1) := by decide +kernel
theorem dX9_bestWagesByTable_18 : decode cX9_bestWagesByTable 18 = .ok (.invokevirtual 195, 3) := by decide +kernel
theorem dX9_bestWagesByTable_21 : decode cX9_bestWagesByTable 21 = .ok (.aload_n 0, 1) := by decide +kernel
theorem dX9_bestWagesByTable_22 : decode cX9_bestWagesByTable 22 = .ok (.getfield 43, 3) := by decide +kernel
theorem dX9_bestWagesByTable_25 : decode cX9_bestWagesByTable 25 = .ok (.invokevirtual 210, 3) := by decide +kernel
theorem dX9_bestWagesByTable_28 : decode cX9_bestWagesByTable 28 = .ok (.ireturn, 1) := by decide +kernel
theorem dX9_checkGoblin_0 : decode cX9_checkGoblin 0 = .ok (.aload_n 0, 1) := by decide +kernel
theorem dX9_checkGoblin_1 : decode cX9_checkGoblin 1 = .ok (.getfield 12, 3) := by decide +kernel
theorem dX9_checkGoblin_4 : decode cX9_checkGoblin 4 = .ok (.getfield 170, 3) := by decide +kernel
theorem dX9_checkGoblin_7 : decode cX9_checkGoblin 7 = .ok (.iload_n 1, 1) := by decide +kernel
theorem dX9_checkGoblin_8 : decode cX9_checkGoblin 8 = .ok (.invokevirtual 214, 3) := by decide +kernel
theorem dX9_checkGoblin_11 : decode cX9_checkGoblin 11 = .ok (.ifCond .ne 13, 3) := by decide +kernel
theorem dX9_checkGoblin_14 : decode cX9_checkGoblin 14 = .ok (.new 104, 3) := by decide +kernel
theorem dX9_checkGoblin_17 : decode cX9_checkGoblin 17 = .ok (.dup, 1) := by decide +kernel
theorem dX9_checkGoblin_18 : decode cX9_checkGoblin 18 = .ok (.ldc 215, 2) := by decide +kernel
theorem dX9_checkGoblin_20 : decode cX9_checkGoblin 20 = .ok (.invokespecial 108, 3) := by decide +kernel
theorem dX9_checkGoblin_23 : decode cX9_checkGoblin 23 = .ok (.athrow, 1) := by decide +kernel
theorem dX9_checkGoblin_24 : decode cX9_checkGoblin 24 = .ok (.return_, 1) := by decide +kernel
theorem dX9_openContracts_0 : decode cX9_openContracts 0 = .ok (.aload_n 0, 1) := by decide +kernel
theorem dX9_openContracts_1 : decode cX9_openContracts 1 = .ok (.getfield 12, 3) := by decide +kernel
theorem dX9_openContracts_4 : decode cX9_openContracts 4 = .ok (.getfield 201, 3) := by decide +kernel
theorem dX9_openContracts_7 : decode cX9_openContracts 7 = .ok (.getfield 217, 3) := by decide +kernel
theorem dX9_openContracts_10 : decode cX9_openContracts 10 = .ok (.ireturn, 1) := by decide +kernel
theorem dX9_contractAt_0 : decode cX9_contractAt 0 = .ok (.iload_n 1, 1) := by decide +kernel
theorem dX9_contractAt_1 : decode cX9_contractAt 1 = .ok (.ifCond .lt 17, 3) := by decide +kernel
theorem dX9_contractAt_4 : decode cX9_contractAt 4 = .ok (.iload_n 1, 1) := by decide +kernel
theorem dX9_contractAt_5 : decode cX9_contractAt 5 = .ok (.aload_n 0, 1) := by decide +kernel
theorem dX9_contractAt_6 : decode cX9_contractAt 6 = .ok (.getfield 12, 3) := by decide +kernel
theorem dX9_contractAt_9 : decode cX9_contractAt 9 = .ok (.getfield 201, 3) := by decide +kernel
theorem dX9_contractAt_12 : decode cX9_contractAt 12 = .ok (.getfield 217, 3) := by decide +kernel
theorem dX9_contractAt_15 : decode cX9_contractAt 15 = .ok (.if_icmp .lt 13, 3) := by decide +kernel
theorem dX9_contractAt_18 : decode cX9_contractAt 18 = .ok (.new 126, 3) := by decide +kernel
theorem dX9_contractAt_21 : decode cX9_contractAt 21 = .ok (.dup, 1) := by decide +kernel
theorem dX9_contractAt_22 : decode cX9_contractAt 22 = .ok (.ldc 218, 2) := by decide +kernel
theorem dX9_contractAt_24 : decode cX9_contractAt 24 = .ok (.invokespecial 130, 3) := by decide +kernel
theorem dX9_contractAt_27 : decode cX9_contractAt 27 = .ok (.athrow, 1) := by decide +kernel
theorem dX9_contractAt_28 : decode cX9_contractAt 28 = .ok (.aload_n 0, 1) := by decide +kernel
theorem dX9_contractAt_29 : decode cX9_contractAt 29 = .ok (.getfield 12, 3) := by decide +kernel
theorem dX9_contractAt_32 : decode cX9_contractAt 32 = .ok (.getfield 201, 3) := by decide +kernel
theorem dX9_contractAt_35 : decode cX9_contractAt 35 = .ok (.getfield 220, 3) := by decide +kernel
theorem dX9_contractAt_38 : decode cX9_contractAt 38 = .ok (.iload_n 1, 1) := by decide +kernel
theorem dX9_contractAt_39 : decode cX9_contractAt 39 = .ok (.iaload, 1) := by decide +kernel
theorem dX9_contractAt_40 : decode cX9_contractAt 40 = .ok (.ireturn, 1) := by decide +kernel
theorem dX9_goblinOf_0 : decode cX9_goblinOf 0 = .ok (.aload_n 0, 1) := by decide +kernel
theorem dX9_goblinOf_1 : decode cX9_goblinOf 1 = .ok (.getfield 12, 3) := by decide +kernel
theorem dX9_goblinOf_4 : decode cX9_goblinOf 4 = .ok (.getfield 201, 3) := by decide +kernel
theorem dX9_goblinOf_7 : decode cX9_goblinOf 7 = .ok (.getfield 223, 3) := by decide +kernel
theorem dX9_goblinOf_10 : decode cX9_goblinOf 10 = .ok (.aload_n 0, 1) := by decide +kernel
theorem dX9_goblinOf_11 : decode cX9_goblinOf 11 = .ok (.iload_n 1, 1) := by decide +kernel
theorem dX9_goblinOf_12 : decode cX9_goblinOf 12 = .ok (.invokevirtual 225, 3) := by decide +kernel
theorem dX9_goblinOf_15 : decode cX9_goblinOf 15 = .ok (.iaload, 1) := by decide +kernel
theorem dX9_goblinOf_16 : decode cX9_goblinOf 16 = .ok (.ireturn, 1) := by decide +kernel
theorem dX9_roomOf_0 : decode cX9_roomOf 0 = .ok (.aload_n 0, 1) := by decide +kernel
theorem dX9_roomOf_1 : decode cX9_roomOf 1 = .ok (.getfield 12, 3) := by decide +kernel
theorem dX9_roomOf_4 : decode cX9_roomOf 4 = .ok (.getfield 201, 3) := by decide +kernel
theorem dX9_roomOf_7 : decode cX9_roomOf 7 = .ok (.getfield 228, 3) := by decide +kernel
theorem dX9_roomOf_10 : decode cX9_roomOf 10 = .ok (.aload_n 0, 1) := by decide +kernel
theorem dX9_roomOf_11 : decode cX9_roomOf 11 = .ok (.iload_n 1, 1) := by decide +kernel
theorem dX9_roomOf_12 : decode cX9_roomOf 12 = .ok (.invokevirtual 225, 3) := by decide +kernel
theorem dX9_roomOf_15 : decode cX9_roomOf 15 = .ok (.iaload, 1) := by decide +kernel
theorem dX9_roomOf_16 : decode cX9_roomOf 16 = .ok (.ireturn, 1) := by decide +kernel
theorem dX9_wage_0 : decode cX9_wage 0 = .ok (.aload_n 0, 1) := by decide +kernel
theorem dX9_wage_1 : decode cX9_wage 1 = .ok (.getfield 12, 3) := by decide +kernel
theorem dX9_wage_4 : decode cX9_wage 4 = .ok (.getfield 201, 3) := by decide +kernel
theorem dX9_wage_7 : decode cX9_wage 7 = .ok (.getfield 231, 3) := by decide +kernel
theorem dX9_wage_10 : decode cX9_wage 10 = .ok (.aload_n 0, 1) := by decide +kernel
theorem dX9_wage_11 : decode cX9_wage 11 = .ok (.iload_n 1, 1) := by decide +kernel
theorem dX9_wage_12 : decode cX9_wage 12 = .ok (.invokevirtual 225, 3) := by decide +kernel
theorem dX9_wage_15 : decode cX9_wage 15 = .ok (.iaload, 1) := by decide +kernel
theorem dX9_wage_16 : decode cX9_wage 16 = .ok (.ireturn, 1) := by decide +kernel
theorem dX9_effort_0 : decode cX9_effort 0 = .ok (.aload_n 0, 1) := by decide +kernel
theorem dX9_effort_1 : decode cX9_effort 1 = .ok (.getfield 12, 3) := by decide +kernel
theorem dX9_effort_4 : decode cX9_effort 4 = .ok (.getfield 201, 3) := by decide +kernel
theorem dX9_effort_7 : decode cX9_effort 7 = .ok (.getfield 234, 3) := by decide +kernel
theorem dX9_effort_10 : decode cX9_effort 10 = .ok (.aload_n 0, 1) := by decide +kernel
theorem dX9_effort_11 : decode cX9_effort 11 = .ok (.iload_n 1, 1) := by decide +kernel
theorem dX9_effort_12 : decode cX9_effort 12 = .ok (.invokevirtual 225, 3) := by decide +kernel
theorem dX9_effort_15 : decode cX9_effort 15 = .ok (.iaload, 1) := by decide +kernel
theorem dX9_effort_16 : decode cX9_effort 16 = .ok (.ireturn, 1) := by decide +kernel
theorem dX9_nightsUntilDone_0 : decode cX9_nightsUntilDone 0 = .ok (.aload_n 0, 1) := by decide +kernel
theorem dX9_nightsUntilDone_1 : decode cX9_nightsUntilDone 1 = .ok (.getfield 12, 3) := by decide +kernel
theorem dX9_nightsUntilDone_4 : decode cX9_nightsUntilDone 4 = .ok (.getfield 201, 3) := by decide +kernel
theorem dX9_nightsUntilDone_7 : decode cX9_nightsUntilDone 7 = .ok (.getfield 223, 3) := by decide +kernel
theorem dX9_nightsUntilDone_10 : decode cX9_nightsUntilDone 10 = .ok (.aload_n 0, 1) := by decide +kernel
theorem dX9_nightsUntilDone_11 : decode cX9_nightsUntilDone 11 = .ok (.iload_n 1, 1) := by decide +kernel
theorem dX9_nightsUntilDone_12 : decode cX9_nightsUntilDone 12 = .ok (.invokevirtual 225, 3) := by decide +kernel
theorem dX9_nightsUntilDone_15 : decode cX9_nightsUntilDone 15 = .ok (.iaload, 1) := by decide +kernel
theorem dX9_nightsUntilDone_16 : decode cX9_nightsUntilDone 16 = .ok (.istore_n 2, 1) := by decide +kernel
theorem dX9_nightsUntilDone_17 : decode cX9_nightsUntilDone 17 = .ok (.aload_n 0, 1) := by decide +kernel
theorem dX9_nightsUntilDone_18 : decode cX9_nightsUntilDone 18 = .ok (.getfield 12, 3) := by decide +kernel
theorem dX9_nightsUntilDone_21 : decode cX9_nightsUntilDone 21 = .ok (.getfield 170, 3) := by decide +kernel
theorem dX9_nightsUntilDone_24 : decode cX9_nightsUntilDone 24 = .ok (.getfield 192, 3) := by decide +kernel
theorem dX9_nightsUntilDone_27 : decode cX9_nightsUntilDone 27 = .ok (.iload_n 2, 1) := by decide +kernel
theorem dX9_nightsUntilDone_28 : decode cX9_nightsUntilDone 28 = .ok (.baload, 1) := by decide +kernel
theorem dX9_nightsUntilDone_29 : decode cX9_nightsUntilDone 29 = .ok (.ifCond .eq 13, 3) := by decide +kernel
theorem dX9_nightsUntilDone_32 : decode cX9_nightsUntilDone 32 = .ok (.new 116, 3) := by decide +kernel
theorem dX9_nightsUntilDone_35 : decode cX9_nightsUntilDone 35 = .ok (.dup, 1) := by decide +kernel
theorem dX9_nightsUntilDone_36 : decode cX9_nightsUntilDone 36 = .ok (.ldc 237, 2) := by decide +kernel
theorem dX9_nightsUntilDone_38 : decode cX9_nightsUntilDone 38 = .ok (.invokespecial 120, 3) := by decide +kernel
theorem dX9_nightsUntilDone_41 : decode cX9_nightsUntilDone 41 = .ok (.athrow, 1) := by decide +kernel
theorem dX9_nightsUntilDone_42 : decode cX9_nightsUntilDone 42 = .ok (.aload_n 0, 1) := by decide +kernel
theorem dX9_nightsUntilDone_43 : decode cX9_nightsUntilDone 43 = .ok (.getfield 16, 3) := by decide +kernel
theorem dX9_nightsUntilDone_46 : decode cX9_nightsUntilDone 46 = .ok (.aload_n 0, 1) := by decide +kernel
theorem dX9_nightsUntilDone_47 : decode cX9_nightsUntilDone 47 = .ok (.getfield 12, 3) := by decide +kernel
theorem dX9_nightsUntilDone_50 : decode cX9_nightsUntilDone 50 = .ok (.invokevirtual 239, 3) := by decide +kernel
theorem dX9_nightsUntilDone_53 : decode cX9_nightsUntilDone 53 = .ok (.iconst 1, 1) := by decide +kernel
theorem dX9_nightsUntilDone_54 : decode cX9_nightsUntilDone 54 = .ok (.istore_n 3, 1) := by decide +kernel
theorem dX9_nightsUntilDone_55 : decode cX9_nightsUntilDone 55 = .ok (.iload_n 3, 1) := by decide +kernel
theorem dX9_nightsUntilDone_56 : decode cX9_nightsUntilDone 56 = .ok (.bipush 60, 2) := by decide +kernel
theorem dX9_nightsUntilDone_58 : decode cX9_nightsUntilDone 58 = .ok (.if_icmp .gt 33, 3) := by decide +kernel
theorem dX9_nightsUntilDone_61 : decode cX9_nightsUntilDone 61 = .ok (.aload_n 0, 1) := by decide +kernel
theorem dX9_nightsUntilDone_62 : decode cX9_nightsUntilDone 62 = .ok (.getfield 16, 3) := by decide +kernel
theorem dX9_nightsUntilDone_65 : decode cX9_nightsUntilDone 65 = .ok (.invokevirtual 242, 3) := by decide +kernel
theorem dX9_nightsUntilDone_68 : decode cX9_nightsUntilDone 68 = .ok (.aload_n 0, 1) := by decide +kernel
theorem dX9_nightsUntilDone_69 : decode cX9_nightsUntilDone 69 = .ok (.getfield 16, 3) := by decide +kernel
theorem dX9_nightsUntilDone_72 : decode cX9_nightsUntilDone 72 = .ok (.getfield 201, 3) := by decide +kernel
theorem dX9_nightsUntilDone_75 : decode cX9_nightsUntilDone 75 = .ok (.iload_n 1, 1) := by decide +kernel
theorem dX9_nightsUntilDone_76 : decode cX9_nightsUntilDone 76 = .ok (.invokevirtual 245, 3) := by decide +kernel
theorem dX9_nightsUntilDone_79 : decode cX9_nightsUntilDone 79 = .ok (.iconst (-1), 1) := by decide +kernel
theorem dX9_nightsUntilDone_80 : decode cX9_nightsUntilDone 80 = .ok (.if_icmp .ne 5, 3) := by decide +kernel
theorem dX9_nightsUntilDone_83 : decode cX9_nightsUntilDone 83 = .ok (.iload_n 3, 1) := by decide +kernel
theorem dX9_nightsUntilDone_84 : decode cX9_nightsUntilDone 84 = .ok (.ireturn, 1) := by decide +kernel
theorem dX9_nightsUntilDone_85 : decode cX9_nightsUntilDone 85 = .ok (.iinc 3 1, 3) := by decide +kernel
theorem dX9_nightsUntilDone_88 : decode cX9_nightsUntilDone 88 = .ok (.goto (-33), 3) := by decide +kernel
theorem dX9_nightsUntilDone_91 : decode cX9_nightsUntilDone 91 = .ok (.new 116, 3) := by decide +kernel
theorem dX9_nightsUntilDone_94 : decode cX9_nightsUntilDone 94 = .ok (.dup, 1) := by decide +kernel
theorem dX9_nightsUntilDone_95 : decode cX9_nightsUntilDone 95 = .ok (.ldc 248, 2) := by decide +kernel
theorem dX9_nightsUntilDone_97 : decode cX9_nightsUntilDone 97 = .ok (.invokespecial 120, 3) := by decide +kernel
theorem dX9_nightsUntilDone_100 : decode cX9_nightsUntilDone 100 = .ok (.athrow, 1) := by decide +kernel
theorem dX9_checkedPosition_0 : decode cX9_checkedPosition 0 = .ok (.aload_n 0, 1) := by decide +kernel
theorem dX9_checkedPosition_1 : decode cX9_checkedPosition 1 = .ok (.getfield 12, 3) := by decide +kernel
theorem dX9_checkedPosition_4 : decode cX9_checkedPosition 4 = .ok (.getfield 201, 3) := by decide +kernel
theorem dX9_checkedPosition_7 : decode cX9_checkedPosition 7 = .ok (.iload_n 1, 1) := by decide +kernel
theorem dX9_checkedPosition_8 : decode cX9_checkedPosition 8 = .ok (.invokevirtual 245, 3) := by decide +kernel
theorem dX9_checkedPosition_11 : decode cX9_checkedPosition 11 = .ok (.istore_n 2, 1) := by decide +kernel
theorem dX9_checkedPosition_12 : decode cX9_checkedPosition 12 = .ok (.iload_n 2, 1) := by decide +kernel
theorem dX9_checkedPosition_13 : decode cX9_checkedPosition 13 = .ok (.iconst (-1), 1) := by decide +kernel
theorem dX9_checkedPosition_14 : decode cX9_checkedPosition 14 = .ok (.if_icmp .ne 13, 3) := by decide +kernel
theorem dX9_checkedPosition_17 : decode cX9_checkedPosition 17 = .ok (.new 126, 3) := by decide +kernel
theorem dX9_checkedPosition_20 : decode cX9_checkedPosition 20 = .ok (.dup, 1) := by decide +kernel
theorem dX9_checkedPosition_21 : decode cX9_checkedPosition 21 = .ok (.ldc 128, 2) := by decide +kernel
theorem dX9_checkedPosition_23 : decode cX9_checkedPosition 23 = .ok (.invokespecial 130, 3) := by decide +kernel
theorem dX9_checkedPosition_26 : decode cX9_checkedPosition 26 = .ok (.athrow, 1) := by decide +kernel
theorem dX9_checkedPosition_27 : decode cX9_checkedPosition 27 = .ok (.iload_n 2, 1) := by decide +kernel
theorem dX9_checkedPosition_28 : decode cX9_checkedPosition 28 = .ok (.ireturn, 1) := by decide +kernel
theorem dX9_chestAfter_0 : decode cX9_chestAfter 0 = .ok (.aload_n 0, 1) := by decide +kernel
theorem dX9_chestAfter_1 : decode cX9_chestAfter 1 = .ok (.iload_n 1, 1) := by decide +kernel
theorem dX9_chestAfter_2 : decode cX9_chestAfter 2 = .ok (.invokevirtual 250, 3) := by decide +kernel
theorem dX9_chestAfter_5 : decode cX9_chestAfter 5 = .ok (.aload_n 0, 1) := by decide +kernel
theorem dX9_chestAfter_6 : decode cX9_chestAfter 6 = .ok (.getfield 16, 3) := by decide +kernel
theorem dX9_chestAfter_9 : decode cX9_chestAfter 9 = .ok (.getfield 253, 3) := by decide +kernel
theorem dX9_chestAfter_12 : decode cX9_chestAfter 12 = .ok (.ireturn, 1) := by decide +kernel
theorem dX9_debtAfter_0 : decode cX9_debtAfter 0 = .ok (.aload_n 0, 1) := by decide +kernel
theorem dX9_debtAfter_1 : decode cX9_debtAfter 1 = .ok (.iload_n 1, 1) := by decide +kernel
theorem dX9_debtAfter_2 : decode cX9_debtAfter 2 = .ok (.invokevirtual 177, 3) := by decide +kernel
theorem dX9_debtAfter_5 : decode cX9_debtAfter 5 = .ok (.aload_n 0, 1) := by decide +kernel
theorem dX9_debtAfter_6 : decode cX9_debtAfter 6 = .ok (.iload_n 2, 1) := by decide +kernel
theorem dX9_debtAfter_7 : decode cX9_debtAfter 7 = .ok (.invokevirtual 250, 3) := by decide +kernel
theorem dX9_debtAfter_10 : decode cX9_debtAfter 10 = .ok (.aload_n 0, 1) := by decide +kernel
theorem dX9_debtAfter_11 : decode cX9_debtAfter 11 = .ok (.getfield 16, 3) := by decide +kernel
theorem dX9_debtAfter_14 : decode cX9_debtAfter 14 = .ok (.getfield 170, 3) := by decide +kernel
theorem dX9_debtAfter_17 : decode cX9_debtAfter 17 = .ok (.getfield 186, 3) := by decide +kernel
theorem dX9_debtAfter_20 : decode cX9_debtAfter 20 = .ok (.iload_n 1, 1) := by decide +kernel
theorem dX9_debtAfter_21 : decode cX9_debtAfter 21 = .ok (.iaload, 1) := by decide +kernel
theorem dX9_debtAfter_22 : decode cX9_debtAfter 22 = .ok (.ireturn, 1) := by decide +kernel
theorem dX9_predict_0 : decode cX9_predict 0 = .ok (.iload_n 1, 1) := by decide +kernel
theorem dX9_predict_1 : decode cX9_predict 1 = .ok (.ifCond .lt 9, 3) := by decide +kernel
theorem dX9_predict_4 : decode cX9_predict 4 = .ok (.iload_n 1, 1) := by decide +kernel
theorem dX9_predict_5 : decode cX9_predict 5 = .ok (.bipush 60, 2) := by decide +kernel
theorem dX9_predict_7 : decode cX9_predict 7 = .ok (.if_icmp .le 14, 3) := by decide +kernel
theorem dX9_predict_10 : decode cX9_predict 10 = .ok (.new 111, 3) := by decide +kernel
theorem dX9_predict_13 : decode cX9_predict 13 = .ok (.dup, 1) := by decide +kernel
theorem dX9_predict_14 : decode cX9_predict 14 = .ok (.ldc_w 256, 3) := by decide +kernel
theorem dX9_predict_17 : decode cX9_predict 17 = .ok (.invokespecial 115, 3) := by decide +kernel
theorem dX9_predict_20 : decode cX9_predict 20 = .ok (.athrow, 1) := by decide +kernel
theorem dX9_predict_21 : decode cX9_predict 21 = .ok (.aload_n 0, 1) := by decide +kernel
theorem dX9_predict_22 : decode cX9_predict 22 = .ok (.getfield 16, 3) := by decide +kernel
theorem dX9_predict_25 : decode cX9_predict 25 = .ok (.aload_n 0, 1) := by decide +kernel
theorem dX9_predict_26 : decode cX9_predict 26 = .ok (.getfield 12, 3) := by decide +kernel
theorem dX9_predict_29 : decode cX9_predict 29 = .ok (.invokevirtual 239, 3) := by decide +kernel
theorem dX9_predict_32 : decode cX9_predict 32 = .ok (.iconst 0, 1) := by decide +kernel
theorem dX9_predict_33 : decode cX9_predict 33 = .ok (.istore_n 2, 1) := by decide +kernel
theorem dX9_predict_34 : decode cX9_predict 34 = .ok (.iload_n 2, 1) := by decide +kernel
theorem dX9_predict_35 : decode cX9_predict 35 = .ok (.iload_n 1, 1) := by decide +kernel
theorem dX9_predict_36 : decode cX9_predict 36 = .ok (.if_icmp .ge 16, 3) := by decide +kernel
theorem dX9_predict_39 : decode cX9_predict 39 = .ok (.aload_n 0, 1) := by decide +kernel
theorem dX9_predict_40 : decode cX9_predict 40 = .ok (.getfield 16, 3) := by decide +kernel
theorem dX9_predict_43 : decode cX9_predict 43 = .ok (.invokevirtual 242, 3) := by decide +kernel
theorem dX9_predict_46 : decode cX9_predict 46 = .ok (.iinc 2 1, 3) := by decide +kernel
theorem dX9_predict_49 : decode cX9_predict 49 = .ok (.goto (-15), 3) := by decide +kernel
theorem dX9_predict_52 : decode cX9_predict 52 = .ok (.return_, 1) := by decide +kernel
theorem dX9_night_0 : decode cX9_night 0 = .ok (.aload_n 0, 1) := by decide +kernel
theorem dX9_night_1 : decode cX9_night 1 = .ok (.getfield 12, 3) := by decide +kernel
theorem dX9_night_4 : decode cX9_night 4 = .ok (.getfield 258, 3) := by decide +kernel
theorem dX9_night_7 : decode cX9_night 7 = .ok (.ireturn, 1) := by decide +kernel
theorem dX9_chest_0 : decode cX9_chest 0 = .ok (.aload_n 0, 1) := by decide +kernel
theorem dX9_chest_1 : decode cX9_chest 1 = .ok (.getfield 12, 3) := by decide +kernel
theorem dX9_chest_4 : decode cX9_chest 4 = .ok (.getfield 253, 3) := by decide +kernel
theorem dX9_chest_7 : decode cX9_chest 7 = .ok (.ireturn, 1) := by decide +kernel
theorem dX9_allCrumbs_0 : decode cX9_allCrumbs 0 = .ok (.aload_n 0, 1) := by decide +kernel
theorem dX9_allCrumbs_1 : decode cX9_allCrumbs 1 = .ok (.getfield 12, 3) := by decide +kernel
theorem dX9_allCrumbs_4 : decode cX9_allCrumbs 4 = .ok (.getfield 253, 3) := by decide +kernel
theorem dX9_allCrumbs_7 : decode cX9_allCrumbs 7 = .ok (.aload_n 0, 1) := by decide +kernel
theorem dX9_allCrumbs_8 : decode cX9_allCrumbs 8 = .ok (.getfield 12, 3) := by decide +kernel
theorem dX9_allCrumbs_11 : decode cX9_allCrumbs 11 = .ok (.getfield 170, 3) := by decide +kernel
theorem dX9_allCrumbs_14 : decode cX9_allCrumbs 14 = .ok (.invokevirtual 261, 3) := by decide +kernel
theorem dX9_allCrumbs_17 : decode cX9_allCrumbs 17 = .ok (.iadd, 1) := by decide +kernel
theorem dX9_allCrumbs_18 : decode cX9_allCrumbs 18 = .ok (.ireturn, 1) := by decide +kernel
theorem dX9_allCrumbsByAccounts_0 : decode cX9_allCrumbsByAccounts 0 = .ok (.bipush 100, 2) := by decide +kernel
theorem dX9_allCrumbsByAccounts_2 : decode cX9_allCrumbsByAccounts 2 = .ok (.aload_n 0, 1) := by decide +kernel
theorem dX9_allCrumbsByAccounts_3 : decode cX9_allCrumbsByAccounts 3 = .ok (.getfield 12, 3) := by decide +kernel
theorem dX9_allCrumbsByAccounts_6 : decode cX9_allCrumbsByAccounts 6 = .ok (.getfield 265, 3) := by decide +kernel
theorem dX9_allCrumbsByAccounts_9 : decode cX9_allCrumbsByAccounts 9 = .ok (.iadd, 1) := by decide +kernel
theorem dX9_allCrumbsByAccounts_10 : decode cX9_allCrumbsByAccounts 10 = .ok (.aload_n 0, 1) := by decide +kernel
theorem dX9_allCrumbsByAccounts_11 : decode cX9_allCrumbsByAccounts 11 = .ok (.getfield 12, 3) := by decide +kernel
theorem dX9_allCrumbsByAccounts_14 : decode cX9_allCrumbsByAccounts 14 = .ok (.getfield 268, 3) := by decide +kernel
theorem dX9_allCrumbsByAccounts_17 : decode cX9_allCrumbsByAccounts 17 = .ok (.isub, 1) := by decide +kernel
theorem dX9_allCrumbsByAccounts_18 : decode cX9_allCrumbsByAccounts 18 = .ok (.ireturn, 1) := by decide +kernel
theorem dX9_doneTotal_0 : decode cX9_doneTotal 0 = .ok (.aload_n 0, 1) := by decide +kernel
theorem dX9_doneTotal_1 : decode cX9_doneTotal 1 = .ok (.getfield 12, 3) := by decide +kernel
theorem dX9_doneTotal_4 : decode cX9_doneTotal 4 = .ok (.getfield 271, 3) := by decide +kernel
theorem dX9_doneTotal_7 : decode cX9_doneTotal 7 = .ok (.ireturn, 1) := by decide +kernel
theorem dX9_brokenTotal_0 : decode cX9_brokenTotal 0 = .ok (.aload_n 0, 1) := by decide +kernel
theorem dX9_brokenTotal_1 : decode cX9_brokenTotal 1 = .ok (.getfield 12, 3) := by decide +kernel
theorem dX9_brokenTotal_4 : decode cX9_brokenTotal 4 = .ok (.getfield 274, 3) := by decide +kernel
theorem dX9_brokenTotal_7 : decode cX9_brokenTotal 7 = .ok (.ireturn, 1) := by decide +kernel
theorem dX9_unpaidTotal_0 : decode cX9_unpaidTotal 0 = .ok (.aload_n 0, 1) := by decide +kernel
theorem dX9_unpaidTotal_1 : decode cX9_unpaidTotal 1 = .ok (.getfield 12, 3) := by decide +kernel
theorem dX9_unpaidTotal_4 : decode cX9_unpaidTotal 4 = .ok (.getfield 277, 3) := by decide +kernel
theorem dX9_unpaidTotal_7 : decode cX9_unpaidTotal 7 = .ok (.ireturn, 1) := by decide +kernel
theorem dX9_interestTotal_0 : decode cX9_interestTotal 0 = .ok (.aload_n 0, 1) := by decide +kernel
theorem dX9_interestTotal_1 : decode cX9_interestTotal 1 = .ok (.getfield 12, 3) := by decide +kernel
theorem dX9_interestTotal_4 : decode cX9_interestTotal 4 = .ok (.getfield 280, 3) := by decide +kernel
theorem dX9_interestTotal_7 : decode cX9_interestTotal 7 = .ok (.ireturn, 1) := by decide +kernel
theorem dX9_meanDust_0 : decode cX9_meanDust 0 = .ok (.iconst 0, 1) := by decide +kernel
theorem dX9_meanDust_1 : decode cX9_meanDust 1 = .ok (.istore_n 1, 1) := by decide +kernel
theorem dX9_meanDust_2 : decode cX9_meanDust 2 = .ok (.iconst 0, 1) := by decide +kernel
theorem dX9_meanDust_3 : decode cX9_meanDust 3 = .ok (.istore_n 2, 1) := by decide +kernel
theorem dX9_meanDust_4 : decode cX9_meanDust 4 = .ok (.iload_n 2, 1) := by decide +kernel
theorem dX9_meanDust_5 : decode cX9_meanDust 5 = .ok (.bipush 6, 2) := by decide +kernel
theorem dX9_meanDust_7 : decode cX9_meanDust 7 = .ok (.if_icmp .ge 21, 3) := by decide +kernel
theorem dX9_meanDust_10 : decode cX9_meanDust 10 = .ok (.iload_n 1, 1) := by decide +kernel
theorem dX9_meanDust_11 : decode cX9_meanDust 11 = .ok (.aload_n 0, 1) := by decide +kernel
theorem dX9_meanDust_12 : decode cX9_meanDust 12 = .ok (.getfield 12, 3) := by decide +kernel
theorem dX9_meanDust_15 : decode cX9_meanDust 15 = .ok (.getfield 136, 3) := by decide +kernel
theorem dX9_meanDust_18 : decode cX9_meanDust 18 = .ok (.iload_n 2, 1) := by decide +kernel
theorem dX9_meanDust_19 : decode cX9_meanDust 19 = .ok (.iaload, 1) := by decide +kernel
theorem dX9_meanDust_20 : decode cX9_meanDust 20 = .ok (.iadd, 1) := by decide +kernel
theorem dX9_meanDust_21 : decode cX9_meanDust 21 = .ok (.istore_n 1, 1) := by decide +kernel
theorem dX9_meanDust_22 : decode cX9_meanDust 22 = .ok (.iinc 2 1, 3) := by decide +kernel
theorem dX9_meanDust_25 : decode cX9_meanDust 25 = .ok (.goto (-21), 3) := by decide +kernel
theorem dX9_meanDust_28 : decode cX9_meanDust 28 = .ok (.iload_n 1, 1) := by decide +kernel
theorem dX9_meanDust_29 : decode cX9_meanDust 29 = .ok (.i2d, 1) := by decide +kernel
theorem dX9_meanDust_30 : decode cX9_meanDust 30 = .ok (.ldc2_w 283, 3) := by decide +kernel
theorem dX9_meanDust_33 : decode cX9_meanDust 33 = .ok (.ddiv, 1) := by decide +kernel
theorem dX9_meanDust_34 : decode cX9_meanDust 34 = .ok (.dreturn, 1) := by decide +kernel
theorem dX9_reliability_0 : decode cX9_reliability 0 = .ok (.aload_n 0, 1) := by decide +kernel
theorem dX9_reliability_1 : decode cX9_reliability 1 = .ok (.getfield 12, 3) := by decide +kernel
theorem dX9_reliability_4 : decode cX9_reliability 4 = .ok (.getfield 271, 3) := by decide +kernel
theorem dX9_reliability_7 : decode cX9_reliability 7 = .ok (.aload_n 0, 1) := by decide +kernel
theorem dX9_reliability_8 : decode cX9_reliability 8 = .ok (.getfield 12, 3) := by decide +kernel
theorem dX9_reliability_11 : decode cX9_reliability 11 = .ok (.getfield 274, 3) := by decide +kernel
theorem dX9_reliability_14 : decode cX9_reliability 14 = .ok (.iadd, 1) := by decide +kernel
theorem dX9_reliability_15 : decode cX9_reliability 15 = .ok (.istore_n 1, 1) := by decide +kernel
theorem dX9_reliability_16 : decode cX9_reliability 16 = .ok (.iload_n 1, 1) := by decide +kernel
theorem dX9_reliability_17 : decode cX9_reliability 17 = .ok (.ifCond .ne 14, 3) := by decide +kernel
theorem dX9_reliability_20 : decode cX9_reliability 20 = .ok (.new 285, 3) := by decide +kernel
theorem dX9_reliability_23 : decode cX9_reliability 23 = .ok (.dup, 1) := by decide +kernel
theorem dX9_reliability_24 : decode cX9_reliability 24 = .ok (.ldc_w 287, 3) := by decide +kernel
theorem dX9_reliability_27 : decode cX9_reliability 27 = .ok (.invokespecial 289, 3) := by decide +kernel
theorem dX9_reliability_30 : decode cX9_reliability 30 = .ok (.athrow, 1) := by decide +kernel
theorem dX9_reliability_31 : decode cX9_reliability 31 = .ok (.aload_n 0, 1) := by decide +kernel
theorem dX9_reliability_32 : decode cX9_reliability 32 = .ok (.getfield 12, 3) := by decide +kernel
theorem dX9_reliability_35 : decode cX9_reliability 35 = .ok (.getfield 271, 3) := by decide +kernel
theorem dX9_reliability_38 : decode cX9_reliability 38 = .ok (.i2f, 1) := by decide +kernel
theorem dX9_reliability_39 : decode cX9_reliability 39 = .ok (.iload_n 1, 1) := by decide +kernel
theorem dX9_reliability_40 : decode cX9_reliability 40 = .ok (.i2f, 1) := by decide +kernel
theorem dX9_reliability_41 : decode cX9_reliability 41 = .ok (.fdiv, 1) := by decide +kernel
theorem dX9_reliability_42 : decode cX9_reliability 42 = .ok (.freturn, 1) := by decide +kernel
theorem dX9_isConsistent_0 : decode cX9_isConsistent 0 = .ok (.iconst 0, 1) := by decide +kernel
theorem dX9_isConsistent_1 : decode cX9_isConsistent 1 = .ok (.istore_n 1, 1) := by decide +kernel
theorem dX9_isConsistent_2 : decode cX9_isConsistent 2 = .ok (.iload_n 1, 1) := by decide +kernel
theorem dX9_isConsistent_3 : decode cX9_isConsistent 3 = .ok (.aload_n 0, 1) := by decide +kernel
theorem dX9_isConsistent_4 : decode cX9_isConsistent 4 = .ok (.getfield 12, 3) := by decide +kernel
theorem dX9_isConsistent_7 : decode cX9_isConsistent 7 = .ok (.getfield 170, 3) := by decide +kernel
theorem dX9_isConsistent_10 : decode cX9_isConsistent 10 = .ok (.getfield 174, 3) := by decide +kernel
theorem dX9_isConsistent_13 : decode cX9_isConsistent 13 = .ok (.if_icmp .ge 24, 3) := by decide +kernel
theorem dX9_isConsistent_16 : decode cX9_isConsistent 16 = .ok (.aload_n 0, 1) := by decide +kernel
theorem dX9_isConsistent_17 : decode cX9_isConsistent 17 = .ok (.iload_n 1, 1) := by decide +kernel
theorem dX9_isConsistent_18 : decode cX9_isConsistent 18 = .ok (.invokevirtual 290, 3) := by decide +kernel
theorem dX9_isConsistent_21 : decode cX9_isConsistent 21 = .ok (.aload_n 0, 1) := by decide +kernel
theorem dX9_isConsistent_22 : decode cX9_isConsistent 22 = .ok (.iload_n 1, 1) := by decide +kernel
theorem dX9_isConsistent_23 : decode cX9_isConsistent 23 = .ok (.invokevirtual 293, 3) := by decide +kernel
theorem dX9_isConsistent_26 : decode cX9_isConsistent 26 = .ok (.if_icmp .eq 5, 3) := by decide +kernel
theorem dX9_isConsistent_29 : decode cX9_isConsistent 29 = .ok (.iconst 0, 1) := by decide +kernel
theorem dX9_isConsistent_30 : decode cX9_isConsistent 30 = .ok (.ireturn, 1) := by decide +kernel
theorem dX9_isConsistent_31 : decode cX9_isConsistent 31 = .ok (.iinc 1 1, 3) := by decide +kernel
theorem dX9_isConsistent_34 : decode cX9_isConsistent 34 = .ok (.goto (-32), 3) := by decide +kernel
theorem dX9_isConsistent_37 : decode cX9_isConsistent 37 = .ok (.aload_n 0, 1) := by decide +kernel
theorem dX9_isConsistent_38 : decode cX9_isConsistent 38 = .ok (.invokevirtual 296, 3) := by decide +kernel
theorem dX9_isConsistent_41 : decode cX9_isConsistent 41 = .ok (.aload_n 0, 1) := by decide +kernel
theorem dX9_isConsistent_42 : decode cX9_isConsistent 42 = .ok (.invokevirtual 299, 3) := by decide +kernel
theorem dX9_isConsistent_45 : decode cX9_isConsistent 45 = .ok (.if_icmp .ne 43, 3) := by decide +kernel
theorem dX9_isConsistent_48 : decode cX9_isConsistent 48 = .ok (.aload_n 0, 1) := by decide +kernel
theorem dX9_isConsistent_49 : decode cX9_isConsistent 49 = .ok (.getfield 12, 3) := by decide +kernel
theorem dX9_isConsistent_52 : decode cX9_isConsistent 52 = .ok (.getfield 253, 3) := by decide +kernel
theorem dX9_isConsistent_55 : decode cX9_isConsistent 55 = .ok (.ifCond .lt 33, 3) := by decide +kernel
theorem dX9_isConsistent_58 : decode cX9_isConsistent 58 = .ok (.aload_n 0, 1) := by decide +kernel
theorem dX9_isConsistent_59 : decode cX9_isConsistent 59 = .ok (.getfield 12, 3) := by decide +kernel
theorem dX9_isConsistent_62 : decode cX9_isConsistent 62 = .ok (.getfield 170, 3) := by decide +kernel
theorem dX9_isConsistent_65 : decode cX9_isConsistent 65 = .ok (.invokevirtual 302, 3) := by decide +kernel
theorem dX9_isConsistent_68 : decode cX9_isConsistent 68 = .ok (.ifCond .ne 20, 3) := by decide +kernel
theorem dX9_isConsistent_71 : decode cX9_isConsistent 71 = .ok (.aload_n 0, 1) := by decide +kernel
theorem dX9_isConsistent_72 : decode cX9_isConsistent 72 = .ok (.getfield 12, 3) := by decide +kernel
theorem dX9_isConsistent_75 : decode cX9_isConsistent 75 = .ok (.getfield 201, 3) := by decide +kernel
theorem dX9_isConsistent_78 : decode cX9_isConsistent 78 = .ok (.invokevirtual 306, 3) := by decide +kernel
theorem dX9_isConsistent_81 : decode cX9_isConsistent 81 = .ok (.ifCond .ne 7, 3) := by decide +kernel
theorem dX9_isConsistent_84 : decode cX9_isConsistent 84 = .ok (.iconst 1, 1) := by decide +kernel
theorem dX9_isConsistent_85 : decode cX9_isConsistent 85 = .ok (.goto 4, 3) := by decide +kernel
theorem dX9_isConsistent_88 : decode cX9_isConsistent 88 = .ok (.iconst 0, 1) := by decide +kernel
theorem dX9_isConsistent_89 : decode cX9_isConsistent 89 = .ok (.ireturn, 1) := by decide +kernel
theorem dX9_renderGoblin_0 : decode cX9_renderGoblin 0 = .ok (.aload_n 0, 1) := by decide +kernel
theorem dX9_renderGoblin_1 : decode cX9_renderGoblin 1 = .ok (.iload_n 1, 1) := by decide +kernel
theorem dX9_renderGoblin_2 : decode cX9_renderGoblin 2 = .ok (.invokevirtual 177, 3) := by decide +kernel
theorem dX9_renderGoblin_5 : decode cX9_renderGoblin 5 = .ok (.aload_n 0, 1) := by decide +kernel
theorem dX9_renderGoblin_6 : decode cX9_renderGoblin 6 = .ok (.getfield 12, 3) := by decide +kernel
theorem dX9_renderGoblin_9 : decode cX9_renderGoblin 9 = .ok (.getfield 170, 3) := by decide +kernel
theorem dX9_renderGoblin_12 : decode cX9_renderGoblin 12 = .ok (.astore_n 2, 1) := by decide +kernel
theorem dX9_renderGoblin_13 : decode cX9_renderGoblin 13 = .ok (.aload_n 0, 1) := by decide +kernel
theorem dX9_renderGoblin_14 : decode cX9_renderGoblin 14 = .ok (.getfield 39, 3) := by decide +kernel
theorem dX9_renderGoblin_17 : decode cX9_renderGoblin 17 = .ok (.iconst 0, 1) := by decide +kernel
theorem dX9_renderGoblin_18 : decode cX9_renderGoblin 18 = .ok (.invokevirtual 309, 3) := by decide +kernel
theorem dX9_renderGoblin_21 : decode cX9_renderGoblin 21 = .ok (.aload_n 0, 1) := by decide +kernel
theorem dX9_renderGoblin_22 : decode cX9_renderGoblin 22 = .ok (.getfield 39, 3) := by decide +kernel
theorem dX9_renderGoblin_25 : decode cX9_renderGoblin 25 = .ok (.iload_n 1, 1) := by decide +kernel
theorem dX9_renderGoblin_26 : decode cX9_renderGoblin 26 = .ok (.invokevirtual 312, 3) := by decide +kernel
theorem dX9_renderGoblin_29 : decode cX9_renderGoblin 29 = .ok (.pop, 1) := by decide +kernel
theorem dX9_renderGoblin_30 : decode cX9_renderGoblin 30 = .ok (.aload_n 0, 1) := by decide +kernel
theorem dX9_renderGoblin_31 : decode cX9_renderGoblin 31 = .ok (.getfield 39, 3) := by decide +kernel
theorem dX9_renderGoblin_34 : decode cX9_renderGoblin 34 = .ok (.bipush 115, 2) := by decide +kernel
theorem dX9_renderGoblin_36 : decode cX9_renderGoblin 36 = .ok (.invokevirtual 316, 3) := by decide +kernel
theorem dX9_renderGoblin_39 : decode cX9_renderGoblin 39 = .ok (.aload_n 2, 1) := by decide +kernel
theorem dX9_renderGoblin_40 : decode cX9_renderGoblin 40 = .ok (.getfield 180, 3) := by decide +kernel
theorem dX9_renderGoblin_43 : decode cX9_renderGoblin 43 = .ok (.iload_n 1, 1) := by decide +kernel
theorem dX9_renderGoblin_44 : decode cX9_renderGoblin 44 = .ok (.iaload, 1) := by decide +kernel
theorem dX9_renderGoblin_45 : decode cX9_renderGoblin 45 = .ok (.invokevirtual 312, 3) := by decide +kernel
theorem dX9_renderGoblin_48 : decode cX9_renderGoblin 48 = .ok (.pop, 1) := by decide +kernel
theorem dX9_renderGoblin_49 : decode cX9_renderGoblin 49 = .ok (.aload_n 0, 1) := by decide +kernel
theorem dX9_renderGoblin_50 : decode cX9_renderGoblin 50 = .ok (.getfield 39, 3) := by decide +kernel
theorem dX9_renderGoblin_53 : decode cX9_renderGoblin 53 = .ok (.bipush 112, 2) := by decide +kernel
theorem dX9_renderGoblin_55 : decode cX9_renderGoblin 55 = .ok (.invokevirtual 316, 3) := by decide +kernel
theorem dX9_renderGoblin_58 : decode cX9_renderGoblin 58 = .ok (.aload_n 2, 1) := by decide +kernel
theorem dX9_renderGoblin_59 : decode cX9_renderGoblin 59 = .ok (.getfield 183, 3) := by decide +kernel
theorem dX9_renderGoblin_62 : decode cX9_renderGoblin 62 = .ok (.iload_n 1, 1) := by decide +kernel
theorem dX9_renderGoblin_63 : decode cX9_renderGoblin 63 = .ok (.iaload, 1) := by decide +kernel
theorem dX9_renderGoblin_64 : decode cX9_renderGoblin 64 = .ok (.invokevirtual 312, 3) := by decide +kernel
theorem dX9_renderGoblin_67 : decode cX9_renderGoblin 67 = .ok (.pop, 1) := by decide +kernel
theorem dX9_renderGoblin_68 : decode cX9_renderGoblin 68 = .ok (.aload_n 2, 1) := by decide +kernel
theorem dX9_renderGoblin_69 : decode cX9_renderGoblin 69 = .ok (.getfield 186, 3) := by decide +kernel
theorem dX9_renderGoblin_72 : decode cX9_renderGoblin 72 = .ok (.iload_n 1, 1) := by decide +kernel
theorem dX9_renderGoblin_73 : decode cX9_renderGoblin 73 = .ok (.iaload, 1) := by decide +kernel
theorem dX9_renderGoblin_74 : decode cX9_renderGoblin 74 = .ok (.ifCond .eq 22, 3) := by decide +kernel
theorem dX9_renderGoblin_77 : decode cX9_renderGoblin 77 = .ok (.aload_n 0, 1) := by decide +kernel
theorem dX9_renderGoblin_78 : decode cX9_renderGoblin 78 = .ok (.getfield 39, 3) := by decide +kernel
theorem dX9_renderGoblin_81 : decode cX9_renderGoblin 81 = .ok (.bipush 100, 2) := by decide +kernel
theorem dX9_renderGoblin_83 : decode cX9_renderGoblin 83 = .ok (.invokevirtual 316, 3) := by decide +kernel
theorem dX9_renderGoblin_86 : decode cX9_renderGoblin 86 = .ok (.aload_n 2, 1) := by decide +kernel
theorem dX9_renderGoblin_87 : decode cX9_renderGoblin 87 = .ok (.getfield 186, 3) := by decide +kernel
theorem dX9_renderGoblin_90 : decode cX9_renderGoblin 90 = .ok (.iload_n 1, 1) := by decide +kernel
theorem dX9_renderGoblin_91 : decode cX9_renderGoblin 91 = .ok (.iaload, 1) := by decide +kernel
theorem dX9_renderGoblin_92 : decode cX9_renderGoblin 92 = .ok (.invokevirtual 312, 3) := by decide +kernel
theorem dX9_renderGoblin_95 : decode cX9_renderGoblin 95 = .ok (.pop, 1) := by decide +kernel
theorem dX9_renderGoblin_96 : decode cX9_renderGoblin 96 = .ok (.aload_n 2, 1) := by decide +kernel
theorem dX9_renderGoblin_97 : decode cX9_renderGoblin 97 = .ok (.getfield 192, 3) := by decide +kernel
theorem dX9_renderGoblin_100 : decode cX9_renderGoblin 100 = .ok (.iload_n 1, 1) := by decide +kernel
theorem dX9_renderGoblin_101 : decode cX9_renderGoblin 101 = .ok (.baload, 1) := by decide +kernel
theorem dX9_renderGoblin_102 : decode cX9_renderGoblin 102 = .ok (.ifCond .eq 13, 3) := by decide +kernel
theorem dX9_renderGoblin_105 : decode cX9_renderGoblin 105 = .ok (.aload_n 0, 1) := by decide +kernel
theorem dX9_renderGoblin_106 : decode cX9_renderGoblin 106 = .ok (.getfield 39, 3) := by decide +kernel
theorem dX9_renderGoblin_109 : decode cX9_renderGoblin 109 = .ok (.bipush 122, 2) := by decide +kernel
theorem dX9_renderGoblin_111 : decode cX9_renderGoblin 111 = .ok (.invokevirtual 316, 3) := by decide +kernel
theorem dX9_renderGoblin_114 : decode cX9_renderGoblin 114 = .ok (.pop, 1) := by decide +kernel
theorem dX9_renderGoblin_115 : decode cX9_renderGoblin 115 = .ok (.aload_n 0, 1) := by decide +kernel
theorem dX9_renderGoblin_116 : decode cX9_renderGoblin 116 = .ok (.getfield 39, 3) := by decide +kernel
theorem dX9_renderGoblin_119 : decode cX9_renderGoblin 119 = .ok (.invokevirtual 319, 3) := by decide +kernel
theorem dX9_renderGoblin_122 : decode cX9_renderGoblin 122 = .ok (.ireturn, 1) := by decide +kernel
theorem dX9_renderContracts_0 : decode cX9_renderContracts 0 = .ok (.aload_n 0, 1) := by decide +kernel
theorem dX9_renderContracts_1 : decode cX9_renderContracts 1 = .ok (.getfield 12, 3) := by decide +kernel
theorem dX9_renderContracts_4 : decode cX9_renderContracts 4 = .ok (.getfield 201, 3) := by decide +kernel
theorem dX9_renderContracts_7 : decode cX9_renderContracts 7 = .ok (.astore_n 1, 1) := by decide +kernel
theorem dX9_renderContracts_8 : decode cX9_renderContracts 8 = .ok (.aload_n 0, 1) := by decide +kernel
theorem dX9_renderContracts_9 : decode cX9_renderContracts 9 = .ok (.getfield 39, 3) := by decide +kernel
theorem dX9_renderContracts_12 : decode cX9_renderContracts 12 = .ok (.iconst 0, 1) := by decide +kernel
theorem dX9_renderContracts_13 : decode cX9_renderContracts 13 = .ok (.invokevirtual 309, 3) := by decide +kernel
theorem dX9_renderContracts_16 : decode cX9_renderContracts 16 = .ok (.iconst 0, 1) := by decide +kernel
theorem dX9_renderContracts_17 : decode cX9_renderContracts 17 = .ok (.istore_n 2, 1) := by decide +kernel
theorem dX9_renderContracts_18 : decode cX9_renderContracts 18 = .ok (.iload_n 2, 1) := by decide +kernel
theorem dX9_renderContracts_19 : decode cX9_renderContracts 19 = .ok (.aload_n 1, 1) := by decide +kernel
theorem dX9_renderContracts_20 : decode cX9_renderContracts 20 = .ok (.getfield 217, 3) := by decide +kernel
theorem dX9_renderContracts_23 : decode cX9_renderContracts 23 = .ok (.if_icmp .ge 113, 3) := by decide +kernel
theorem dX9_renderContracts_26 : decode cX9_renderContracts 26 = .ok (.iload_n 2, 1) := by decide +kernel
theorem dX9_renderContracts_27 : decode cX9_renderContracts 27 = .ok (.ifCond .le 13, 3) := by decide +kernel
theorem dX9_renderContracts_30 : decode cX9_renderContracts 30 = .ok (.aload_n 0, 1) := by decide +kernel
theorem dX9_renderContracts_31 : decode cX9_renderContracts 31 = .ok (.getfield 39, 3) := by decide +kernel
theorem dX9_renderContracts_34 : decode cX9_renderContracts 34 = .ok (.bipush 32, 2) := by decide +kernel
theorem dX9_renderContracts_36 : decode cX9_renderContracts 36 = .ok (.invokevirtual 316, 3) := by decide +kernel
theorem dX9_renderContracts_39 : decode cX9_renderContracts 39 = .ok (.pop, 1) := by decide +kernel
theorem dX9_renderContracts_40 : decode cX9_renderContracts 40 = .ok (.aload_n 0, 1) := by decide +kernel
theorem dX9_renderContracts_41 : decode cX9_renderContracts 41 = .ok (.getfield 39, 3) := by decide +kernel
theorem dX9_renderContracts_44 : decode cX9_renderContracts 44 = .ok (.aload_n 1, 1) := by decide +kernel
theorem dX9_renderContracts_45 : decode cX9_renderContracts 45 = .ok (.getfield 220, 3) := by decide +kernel
theorem dX9_renderContracts_48 : decode cX9_renderContracts 48 = .ok (.iload_n 2, 1) := by decide +kernel
theorem dX9_renderContracts_49 : decode cX9_renderContracts 49 = .ok (.iaload, 1) := by decide +kernel
theorem dX9_renderContracts_50 : decode cX9_renderContracts 50 = .ok (.invokevirtual 312, 3) := by decide +kernel
theorem dX9_renderContracts_53 : decode cX9_renderContracts 53 = .ok (.pop, 1) := by decide +kernel
theorem dX9_renderContracts_54 : decode cX9_renderContracts 54 = .ok (.aload_n 0, 1) := by decide +kernel
theorem dX9_renderContracts_55 : decode cX9_renderContracts 55 = .ok (.getfield 39, 3) := by decide +kernel
theorem dX9_renderContracts_58 : decode cX9_renderContracts 58 = .ok (.bipush 58, 2) := by decide +kernel
theorem dX9_renderContracts_60 : decode cX9_renderContracts 60 = .ok (.invokevirtual 316, 3) := by decide +kernel
theorem dX9_renderContracts_63 : decode cX9_renderContracts 63 = .ok (.aload_n 1, 1) := by decide +kernel
theorem dX9_renderContracts_64 : decode cX9_renderContracts 64 = .ok (.getfield 223, 3) := by decide +kernel
theorem dX9_renderContracts_67 : decode cX9_renderContracts 67 = .ok (.iload_n 2, 1) := by decide +kernel
theorem dX9_renderContracts_68 : decode cX9_renderContracts 68 = .ok (.iaload, 1) := by decide +kernel
theorem dX9_renderContracts_69 : decode cX9_renderContracts 69 = .ok (.invokevirtual 312, 3) := by decide +kernel
theorem dX9_renderContracts_72 : decode cX9_renderContracts 72 = .ok (.pop, 1) := by decide +kernel
theorem dX9_renderContracts_73 : decode cX9_renderContracts 73 = .ok (.aload_n 0, 1) := by decide +kernel
theorem dX9_renderContracts_74 : decode cX9_renderContracts 74 = .ok (.getfield 39, 3) := by decide +kernel
theorem dX9_renderContracts_77 : decode cX9_renderContracts 77 = .ok (.bipush 62, 2) := by decide +kernel
theorem dX9_renderContracts_79 : decode cX9_renderContracts 79 = .ok (.invokevirtual 316, 3) := by decide +kernel
theorem dX9_renderContracts_82 : decode cX9_renderContracts 82 = .ok (.aload_n 1, 1) := by decide +kernel
theorem dX9_renderContracts_83 : decode cX9_renderContracts 83 = .ok (.getfield 228, 3) := by decide +kernel
theorem dX9_renderContracts_86 : decode cX9_renderContracts 86 = .ok (.iload_n 2, 1) := by decide +kernel
theorem dX9_renderContracts_87 : decode cX9_renderContracts 87 = .ok (.iaload, 1) := by decide +kernel
theorem dX9_renderContracts_88 : decode cX9_renderContracts 88 = .ok (.invokevirtual 312, 3) := by decide +kernel
theorem dX9_renderContracts_91 : decode cX9_renderContracts 91 = .ok (.pop, 1) := by decide +kernel
theorem dX9_renderContracts_92 : decode cX9_renderContracts 92 = .ok (.aload_n 0, 1) := by decide +kernel
theorem dX9_renderContracts_93 : decode cX9_renderContracts 93 = .ok (.getfield 39, 3) := by decide +kernel
theorem dX9_renderContracts_96 : decode cX9_renderContracts 96 = .ok (.bipush 64, 2) := by decide +kernel
theorem dX9_renderContracts_98 : decode cX9_renderContracts 98 = .ok (.invokevirtual 316, 3) := by decide +kernel
theorem dX9_renderContracts_101 : decode cX9_renderContracts 101 = .ok (.aload_n 1, 1) := by decide +kernel
theorem dX9_renderContracts_102 : decode cX9_renderContracts 102 = .ok (.getfield 231, 3) := by decide +kernel
theorem dX9_renderContracts_105 : decode cX9_renderContracts 105 = .ok (.iload_n 2, 1) := by decide +kernel
theorem dX9_renderContracts_106 : decode cX9_renderContracts 106 = .ok (.iaload, 1) := by decide +kernel
theorem dX9_renderContracts_107 : decode cX9_renderContracts 107 = .ok (.invokevirtual 312, 3) := by decide +kernel
theorem dX9_renderContracts_110 : decode cX9_renderContracts 110 = .ok (.pop, 1) := by decide +kernel
theorem dX9_renderContracts_111 : decode cX9_renderContracts 111 = .ok (.aload_n 0, 1) := by decide +kernel
theorem dX9_renderContracts_112 : decode cX9_renderContracts 112 = .ok (.getfield 39, 3) := by decide +kernel
theorem dX9_renderContracts_115 : decode cX9_renderContracts 115 = .ok (.bipush 47, 2) := by decide +kernel
theorem dX9_renderContracts_117 : decode cX9_renderContracts 117 = .ok (.invokevirtual 316, 3) := by decide +kernel
theorem dX9_renderContracts_120 : decode cX9_renderContracts 120 = .ok (.aload_n 1, 1) := by decide +kernel
theorem dX9_renderContracts_121 : decode cX9_renderContracts 121 = .ok (.getfield 234, 3) := by decide +kernel
theorem dX9_renderContracts_124 : decode cX9_renderContracts 124 = .ok (.iload_n 2, 1) := by decide +kernel
theorem dX9_renderContracts_125 : decode cX9_renderContracts 125 = .ok (.iaload, 1) := by decide +kernel
theorem dX9_renderContracts_126 : decode cX9_renderContracts 126 = .ok (.invokevirtual 312, 3) := by decide +kernel
theorem dX9_renderContracts_129 : decode cX9_renderContracts 129 = .ok (.pop, 1) := by decide +kernel
theorem dX9_renderContracts_130 : decode cX9_renderContracts 130 = .ok (.iinc 2 1, 3) := by decide +kernel
theorem dX9_renderContracts_133 : decode cX9_renderContracts 133 = .ok (.goto (-115), 3) := by decide +kernel
theorem dX9_renderContracts_136 : decode cX9_renderContracts 136 = .ok (.aload_n 0, 1) := by decide +kernel
theorem dX9_renderContracts_137 : decode cX9_renderContracts 137 = .ok (.getfield 39, 3) := by decide +kernel
theorem dX9_renderContracts_140 : decode cX9_renderContracts 140 = .ok (.invokevirtual 319, 3) := by decide +kernel
theorem dX9_renderContracts_143 : decode cX9_renderContracts 143 = .ok (.ireturn, 1) := by decide +kernel
theorem dX9_outputAt_0 : decode cX9_outputAt 0 = .ok (.iload_n 1, 1) := by decide +kernel
theorem dX9_outputAt_1 : decode cX9_outputAt 1 = .ok (.ifCond .lt 14, 3) := by decide +kernel
theorem dX9_outputAt_4 : decode cX9_outputAt 4 = .ok (.iload_n 1, 1) := by decide +kernel
theorem dX9_outputAt_5 : decode cX9_outputAt 5 = .ok (.aload_n 0, 1) := by decide +kernel
theorem dX9_outputAt_6 : decode cX9_outputAt 6 = .ok (.getfield 39, 3) := by decide +kernel
theorem dX9_outputAt_9 : decode cX9_outputAt 9 = .ok (.invokevirtual 319, 3) := by decide +kernel
theorem dX9_outputAt_12 : decode cX9_outputAt 12 = .ok (.if_icmp .lt 14, 3) := by decide +kernel
theorem dX9_outputAt_15 : decode cX9_outputAt 15 = .ok (.new 104, 3) := by decide +kernel
theorem dX9_outputAt_18 : decode cX9_outputAt 18 = .ok (.dup, 1) := by decide +kernel
theorem dX9_outputAt_19 : decode cX9_outputAt 19 = .ok (.ldc_w 322, 3) := by decide +kernel
theorem dX9_outputAt_22 : decode cX9_outputAt 22 = .ok (.invokespecial 108, 3) := by decide +kernel
theorem dX9_outputAt_25 : decode cX9_outputAt 25 = .ok (.athrow, 1) := by decide +kernel
theorem dX9_outputAt_26 : decode cX9_outputAt 26 = .ok (.aload_n 0, 1) := by decide +kernel
theorem dX9_outputAt_27 : decode cX9_outputAt 27 = .ok (.getfield 39, 3) := by decide +kernel
theorem dX9_outputAt_30 : decode cX9_outputAt 30 = .ok (.iload_n 1, 1) := by decide +kernel
theorem dX9_outputAt_31 : decode cX9_outputAt 31 = .ok (.invokevirtual 324, 3) := by decide +kernel
theorem dX9_outputAt_34 : decode cX9_outputAt 34 = .ok (.ireturn, 1) := by decide +kernel
theorem dX9_runScript_0 : decode cX9_runScript 0 = .ok (.aload_n 0, 1) := by decide +kernel
theorem dX9_runScript_1 : decode cX9_runScript 1 = .ok (.getfield 32, 3) := by decide +kernel
theorem dX9_runScript_4 : decode cX9_runScript 4 = .ok (.invokevirtual 335, 3) := by decide +kernel
theorem dX9_runScript_7 : decode cX9_runScript 7 = .ok (.istore_n 1, 1) := by decide +kernel
theorem dX9_runScript_8 : decode cX9_runScript 8 = .ok (.aload_n 0, 1) := by decide +kernel
theorem dX9_runScript_9 : decode cX9_runScript 9 = .ok (.getfield 32, 3) := by decide +kernel
theorem dX9_runScript_12 : decode cX9_runScript 12 = .ok (.getfield 330, 3) := by decide +kernel
theorem dX9_runScript_15 : decode cX9_runScript 15 = .ok (.iconst 0, 1) := by decide +kernel
theorem dX9_runScript_16 : decode cX9_runScript 16 = .ok (.invokevirtual 309, 3) := by decide +kernel
theorem dX9_runScript_19 : decode cX9_runScript 19 = .ok (.iload_n 1, 1) := by decide +kernel
theorem dX9_runScript_20 : decode cX9_runScript 20 = .ok (.ifCond .ne 25, 3) := by decide +kernel
theorem dX9_runScript_23 : decode cX9_runScript 23 = .ok (.aload_n 0, 1) := by decide +kernel
theorem dX9_runScript_24 : decode cX9_runScript 24 = .ok (.aload_n 0, 1) := by decide +kernel
theorem dX9_runScript_25 : decode cX9_runScript 25 = .ok (.getfield 32, 3) := by decide +kernel
theorem dX9_runScript_28 : decode cX9_runScript 28 = .ok (.getfield 338, 3) := by decide +kernel
theorem dX9_runScript_31 : decode cX9_runScript 31 = .ok (.putfield 51, 3) := by decide +kernel
theorem dX9_runScript_34 : decode cX9_runScript 34 = .ok (.new 111, 3) := by decide +kernel
theorem dX9_runScript_37 : decode cX9_runScript 37 = .ok (.dup, 1) := by decide +kernel
theorem dX9_runScript_38 : decode cX9_runScript 38 = .ok (.ldc_w 341, 3) := by decide +kernel
theorem dX9_runScript_41 : decode cX9_runScript 41 = .ok (.invokespecial 115, 3) := by decide +kernel
theorem dX9_runScript_44 : decode cX9_runScript 44 = .ok (.athrow, 1) := by decide +kernel
theorem dX9_runScript_45 : decode cX9_runScript 45 = .ok (.aload_n 0, 1) := by decide +kernel
theorem dX9_runScript_46 : decode cX9_runScript 46 = .ok (.getfield 25, 3) := by decide +kernel
theorem dX9_runScript_49 : decode cX9_runScript 49 = .ok (.aload_n 0, 1) := by decide +kernel
theorem dX9_runScript_50 : decode cX9_runScript 50 = .ok (.getfield 12, 3) := by decide +kernel
theorem dX9_runScript_53 : decode cX9_runScript 53 = .ok (.invokevirtual 58, 3) := by decide +kernel
theorem dX9_runScript_56 : decode cX9_runScript 56 = .ok (.iconst 0, 1) := by decide +kernel
theorem dX9_runScript_57 : decode cX9_runScript 57 = .ok (.istore_n 2, 1) := by decide +kernel
theorem dX9_runScript_58 : decode cX9_runScript 58 = .ok (.iload_n 2, 1) := by decide +kernel
theorem dX9_runScript_59 : decode cX9_runScript 59 = .ok (.aload_n 0, 1) := by decide +kernel
theorem dX9_runScript_60 : decode cX9_runScript 60 = .ok (.getfield 32, 3) := by decide +kernel
theorem dX9_runScript_63 : decode cX9_runScript 63 = .ok (.getfield 343, 3) := by decide +kernel
theorem dX9_runScript_66 : decode cX9_runScript 66 = .ok (.if_icmp .ge 55, 3) := by decide +kernel
theorem dX9_runScript_69 : decode cX9_runScript 69 = .ok (.aload_n 0, 1) := by decide +kernel
theorem dX9_runScript_70 : decode cX9_runScript 70 = .ok (.getfield 12, 3) := by decide +kernel
theorem dX9_runScript_73 : decode cX9_runScript 73 = .ok (.aload_n 0, 1) := by decide +kernel
theorem dX9_runScript_74 : decode cX9_runScript 74 = .ok (.getfield 32, 3) := by decide +kernel
theorem dX9_runScript_77 : decode cX9_runScript 77 = .ok (.getfield 344, 3) := by decide +kernel
theorem dX9_runScript_80 : decode cX9_runScript 80 = .ok (.iload_n 2, 1) := by decide +kernel
theorem dX9_runScript_81 : decode cX9_runScript 81 = .ok (.aaload, 1) := by decide +kernel
theorem dX9_runScript_82 : decode cX9_runScript 82 = .ok (.invokevirtual 348, 3) := by decide +kernel
theorem dX9_runScript_85 : decode cX9_runScript 85 = .ok (.ifCond .ge 30, 3) := by decide +kernel
theorem dX9_runScript_88 : decode cX9_runScript 88 = .ok (.aload_n 0, 1) := by decide +kernel
theorem dX9_runScript_89 : decode cX9_runScript 89 = .ok (.getfield 25, 3) := by decide +kernel
theorem dX9_runScript_92 : decode cX9_runScript 92 = .ok (.aload_n 0, 1) := by decide +kernel
theorem dX9_runScript_93 : decode cX9_runScript 93 = .ok (.getfield 12, 3) := by decide +kernel
theorem dX9_runScript_96 : decode cX9_runScript 96 = .ok (.invokevirtual 352, 3) := by decide +kernel
theorem dX9_runScript_99 : decode cX9_runScript 99 = .ok (.aload_n 0, 1) := by decide +kernel
theorem dX9_runScript_100 : decode cX9_runScript 100 = .ok (.iload_n 2, 1) := by decide +kernel
theorem dX9_runScript_101 : decode cX9_runScript 101 = .ok (.putfield 55, 3) := by decide +kernel
theorem dX9_runScript_104 : decode cX9_runScript 104 = .ok (.new 116, 3) := by decide +kernel
theorem dX9_runScript_107 : decode cX9_runScript 107 = .ok (.dup, 1) := by decide +kernel
theorem dX9_runScript_108 : decode cX9_runScript 108 = .ok (.ldc_w 355, 3) := by decide +kernel
theorem dX9_runScript_111 : decode cX9_runScript 111 = .ok (.invokespecial 120, 3) := by decide +kernel
theorem dX9_runScript_114 : decode cX9_runScript 114 = .ok (.athrow, 1) := by decide +kernel
theorem dX9_runScript_115 : decode cX9_runScript 115 = .ok (.iinc 2 1, 3) := by decide +kernel
theorem dX9_runScript_118 : decode cX9_runScript 118 = .ok (.goto (-60), 3) := by decide +kernel
theorem dX9_runScript_121 : decode cX9_runScript 121 = .ok (.aload_n 0, 1) := by decide +kernel
theorem dX9_runScript_122 : decode cX9_runScript 122 = .ok (.getfield 25, 3) := by decide +kernel
theorem dX9_runScript_125 : decode cX9_runScript 125 = .ok (.invokevirtual 131, 3) := by decide +kernel
theorem dX9_runScript_128 : decode cX9_runScript 128 = .ok (.aload_n 0, 1) := by decide +kernel
theorem dX9_runScript_129 : decode cX9_runScript 129 = .ok (.getfield 32, 3) := by decide +kernel
theorem dX9_runScript_132 : decode cX9_runScript 132 = .ok (.getfield 343, 3) := by decide +kernel
theorem dX9_runScript_135 : decode cX9_runScript 135 = .ok (.ireturn, 1) := by decide +kernel
theorem dX9_errorPosition_0 : decode cX9_errorPosition 0 = .ok (.aload_n 0, 1) := by decide +kernel
theorem dX9_errorPosition_1 : decode cX9_errorPosition 1 = .ok (.getfield 51, 3) := by decide +kernel
theorem dX9_errorPosition_4 : decode cX9_errorPosition 4 = .ok (.iconst (-1), 1) := by decide +kernel
theorem dX9_errorPosition_5 : decode cX9_errorPosition 5 = .ok (.if_icmp .ne 14, 3) := by decide +kernel
theorem dX9_errorPosition_8 : decode cX9_errorPosition 8 = .ok (.new 126, 3) := by decide +kernel
theorem dX9_errorPosition_11 : decode cX9_errorPosition 11 = .ok (.dup, 1) := by decide +kernel
theorem dX9_errorPosition_12 : decode cX9_errorPosition 12 = .ok (.ldc_w 357, 3) := by decide +kernel
theorem dX9_errorPosition_15 : decode cX9_errorPosition 15 = .ok (.invokespecial 130, 3) := by decide +kernel
theorem dX9_errorPosition_18 : decode cX9_errorPosition 18 = .ok (.athrow, 1) := by decide +kernel
theorem dX9_errorPosition_19 : decode cX9_errorPosition 19 = .ok (.aload_n 0, 1) := by decide +kernel
theorem dX9_errorPosition_20 : decode cX9_errorPosition 20 = .ok (.getfield 51, 3) := by decide +kernel
theorem dX9_errorPosition_23 : decode cX9_errorPosition 23 = .ok (.ireturn, 1) := by decide +kernel
theorem dX9_failedCommand_0 : decode cX9_failedCommand 0 = .ok (.aload_n 0, 1) := by decide +kernel
theorem dX9_failedCommand_1 : decode cX9_failedCommand 1 = .ok (.getfield 55, 3) := by decide +kernel
theorem dX9_failedCommand_4 : decode cX9_failedCommand 4 = .ok (.iconst (-1), 1) := by decide +kernel
theorem dX9_failedCommand_5 : decode cX9_failedCommand 5 = .ok (.if_icmp .ne 14, 3) := by decide +kernel
theorem dX9_failedCommand_8 : decode cX9_failedCommand 8 = .ok (.new 126, 3) := by decide +kernel
theorem dX9_failedCommand_11 : decode cX9_failedCommand 11 = .ok (.dup, 1) := by decide +kernel
theorem dX9_failedCommand_12 : decode cX9_failedCommand 12 = .ok (.ldc_w 359, 3) := by decide +kernel
theorem dX9_failedCommand_15 : decode cX9_failedCommand 15 = .ok (.invokespecial 130, 3) := by decide +kernel
theorem dX9_failedCommand_18 : decode cX9_failedCommand 18 = .ok (.athrow, 1) := by decide +kernel
theorem dX9_failedCommand_19 : decode cX9_failedCommand 19 = .ok (.aload_n 0, 1) := by decide +kernel
theorem dX9_failedCommand_20 : decode cX9_failedCommand 20 = .ok (.getfield 55, 3) := by decide +kernel
theorem dX9_failedCommand_23 : decode cX9_failedCommand 23 = .ok (.ireturn, 1) := by decide +kernel
theorem dX9_undo_0 : decode cX9_undo 0 = .ok (.aload_n 0, 1) := by decide +kernel
theorem dX9_undo_1 : decode cX9_undo 1 = .ok (.getfield 25, 3) := by decide +kernel
theorem dX9_undo_4 : decode cX9_undo 4 = .ok (.getfield 361, 3) := by decide +kernel
theorem dX9_undo_7 : decode cX9_undo 7 = .ok (.ifCond .ne 14, 3) := by decide +kernel
theorem dX9_undo_10 : decode cX9_undo 10 = .ok (.new 126, 3) := by decide +kernel
theorem dX9_undo_13 : decode cX9_undo 13 = .ok (.dup, 1) := by decide +kernel
theorem dX9_undo_14 : decode cX9_undo 14 = .ok (.ldc_w 362, 3) := by decide +kernel
theorem dX9_undo_17 : decode cX9_undo 17 = .ok (.invokespecial 130, 3) := by decide +kernel
theorem dX9_undo_20 : decode cX9_undo 20 = .ok (.athrow, 1) := by decide +kernel
theorem dX9_undo_21 : decode cX9_undo 21 = .ok (.aload_n 0, 1) := by decide +kernel
theorem dX9_undo_22 : decode cX9_undo 22 = .ok (.getfield 25, 3) := by decide +kernel
theorem dX9_undo_25 : decode cX9_undo 25 = .ok (.aload_n 0, 1) := by decide +kernel
theorem dX9_undo_26 : decode cX9_undo 26 = .ok (.getfield 12, 3) := by decide +kernel
theorem dX9_undo_29 : decode cX9_undo 29 = .ok (.invokevirtual 364, 3) := by decide +kernel
theorem dX9_undo_32 : decode cX9_undo 32 = .ok (.aload_n 0, 1) := by decide +kernel
theorem dX9_undo_33 : decode cX9_undo 33 = .ok (.getfield 25, 3) := by decide +kernel
theorem dX9_undo_36 : decode cX9_undo 36 = .ok (.getfield 361, 3) := by decide +kernel
theorem dX9_undo_39 : decode cX9_undo 39 = .ok (.ireturn, 1) := by decide +kernel
theorem dX9_save_0 : decode cX9_save 0 = .ok (.aload_n 0, 1) := by decide +kernel
theorem dX9_save_1 : decode cX9_save 1 = .ok (.getfield 19, 3) := by decide +kernel
theorem dX9_save_4 : decode cX9_save 4 = .ok (.aload_n 0, 1) := by decide +kernel
theorem dX9_save_5 : decode cX9_save 5 = .ok (.getfield 12, 3) := by decide +kernel
theorem dX9_save_8 : decode cX9_save 8 = .ok (.invokevirtual 239, 3) := by decide +kernel
theorem dX9_save_11 : decode cX9_save 11 = .ok (.aload_n 0, 1) := by decide +kernel
theorem dX9_save_12 : decode cX9_save 12 = .ok (.iconst 1, 1) := by decide +kernel
theorem dX9_save_13 : decode cX9_save 13 = .ok (.putfield 47, 3) := by decide +kernel
theorem dX9_save_16 : decode cX9_save 16 = .ok (.aload_n 0, 1) := by decide +kernel
theorem dX9_save_17 : decode cX9_save 17 = .ok (.getfield 12, 3) := by decide +kernel
theorem dX9_save_20 : decode cX9_save 20 = .ok (.getfield 201, 3) := by decide +kernel
theorem dX9_save_23 : decode cX9_save 23 = .ok (.getfield 217, 3) := by decide +kernel
theorem dX9_save_26 : decode cX9_save 26 = .ok (.ireturn, 1) := by decide +kernel
theorem dX9_restore_0 : decode cX9_restore 0 = .ok (.aload_n 0, 1) := by decide +kernel
theorem dX9_restore_1 : decode cX9_restore 1 = .ok (.getfield 47, 3) := by decide +kernel
theorem dX9_restore_4 : decode cX9_restore 4 = .ok (.ifCond .ne 14, 3) := by decide +kernel
theorem dX9_restore_7 : decode cX9_restore 7 = .ok (.new 116, 3) := by decide +kernel
theorem dX9_restore_10 : decode cX9_restore 10 = .ok (.dup, 1) := by decide +kernel
theorem dX9_restore_11 : decode cX9_restore 11 = .ok (.ldc_w 367, 3) := by decide +kernel
theorem dX9_restore_14 : decode cX9_restore 14 = .ok (.invokespecial 120, 3) := by decide +kernel
theorem dX9_restore_17 : decode cX9_restore 17 = .ok (.athrow, 1) := by decide +kernel
theorem dX9_restore_18 : decode cX9_restore 18 = .ok (.aload_n 0, 1) := by decide +kernel
theorem dX9_restore_19 : decode cX9_restore 19 = .ok (.getfield 12, 3) := by decide +kernel
theorem dX9_restore_22 : decode cX9_restore 22 = .ok (.aload_n 0, 1) := by decide +kernel
theorem dX9_restore_23 : decode cX9_restore 23 = .ok (.getfield 19, 3) := by decide +kernel
theorem dX9_restore_26 : decode cX9_restore 26 = .ok (.invokevirtual 239, 3) := by decide +kernel
theorem dX9_restore_29 : decode cX9_restore 29 = .ok (.aload_n 0, 1) := by decide +kernel
theorem dX9_restore_30 : decode cX9_restore 30 = .ok (.getfield 25, 3) := by decide +kernel
theorem dX9_restore_33 : decode cX9_restore 33 = .ok (.iconst 0, 1) := by decide +kernel
theorem dX9_restore_34 : decode cX9_restore 34 = .ok (.putfield 361, 3) := by decide +kernel
theorem dX9_restore_37 : decode cX9_restore 37 = .ok (.aload_n 0, 1) := by decide +kernel
theorem dX9_restore_38 : decode cX9_restore 38 = .ok (.getfield 12, 3) := by decide +kernel
theorem dX9_restore_41 : decode cX9_restore 41 = .ok (.getfield 201, 3) := by decide +kernel
theorem dX9_restore_44 : decode cX9_restore 44 = .ok (.getfield 217, 3) := by decide +kernel
theorem dX9_restore_47 : decode cX9_restore 47 = .ok (.ireturn, 1) := by decide +kernel
