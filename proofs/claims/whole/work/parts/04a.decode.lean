theorem dX0_init_0 : decode cX0_init 0 = .ok (.aload_n 0, 1) := by decide +kernel
theorem dX0_init_1 : decode cX0_init 1 = .ok (.invokespecial 1, 3) := by decide +kernel
theorem dX0_init_4 : decode cX0_init 4 = .ok (.aload_n 0, 1) := by decide +kernel
theorem dX0_init_5 : decode cX0_init 5 = .ok (.new 7, 3) := by decide +kernel
theorem dX0_init_8 : decode cX0_init 8 = .ok (.dup, 1) := by decide +kernel
theorem dX0_init_9 : decode cX0_init 9 = .ok (.invokespecial 9, 3) := by decide +kernel
theorem dX0_init_12 : decode cX0_init 12 = .ok (.putfield 10, 3) := by decide +kernel
theorem dX0_init_15 : decode cX0_init 15 = .ok (.aload_n 0, 1) := by decide +kernel
theorem dX0_init_16 : decode cX0_init 16 = .ok (.new 16, 3) := by decide +kernel
theorem dX0_init_19 : decode cX0_init 19 = .ok (.dup, 1) := by decide +kernel
theorem dX0_init_20 : decode cX0_init 20 = .ok (.invokespecial 18, 3) := by decide +kernel
theorem dX0_init_23 : decode cX0_init 23 = .ok (.putfield 19, 3) := by decide +kernel
theorem dX0_init_26 : decode cX0_init 26 = .ok (.aload_n 0, 1) := by decide +kernel
theorem dX0_init_27 : decode cX0_init 27 = .ok (.new 23, 3) := by decide +kernel
theorem dX0_init_30 : decode cX0_init 30 = .ok (.dup, 1) := by decide +kernel
theorem dX0_init_31 : decode cX0_init 31 = .ok (.aload_n 1, 1) := by decide +kernel
theorem dX0_init_32 : decode cX0_init 32 = .ok (.invokespecial 25, 3) := by decide +kernel
theorem dX0_init_35 : decode cX0_init 35 = .ok (.putfield 28, 3) := by decide +kernel
theorem dX0_init_38 : decode cX0_init 38 = .ok (.return_, 1) := by decide +kernel
theorem dX0_keep_0 : decode cX0_keep 0 = .ok (.aload_n 0, 1) := by decide +kernel
theorem dX0_keep_1 : decode cX0_keep 1 = .ok (.getfield 28, 3) := by decide +kernel
theorem dX0_keep_4 : decode cX0_keep 4 = .ok (.aload_n 1, 1) := by decide +kernel
theorem dX0_keep_5 : decode cX0_keep 5 = .ok (.invokevirtual 32, 3) := by decide +kernel
theorem dX0_keep_8 : decode cX0_keep 8 = .ok (.aload_n 0, 1) := by decide +kernel
theorem dX0_keep_9 : decode cX0_keep 9 = .ok (.getfield 10, 3) := by decide +kernel
theorem dX0_keep_12 : decode cX0_keep 12 = .ok (.aload_n 2, 1) := by decide +kernel
theorem dX0_keep_13 : decode cX0_keep 13 = .ok (.invokevirtual 36, 3) := by decide +kernel
theorem dX0_keep_16 : decode cX0_keep 16 = .ok (.aload_n 0, 1) := by decide +kernel
theorem dX0_keep_17 : decode cX0_keep 17 = .ok (.getfield 19, 3) := by decide +kernel
theorem dX0_keep_20 : decode cX0_keep 20 = .ok (.aload_n 3, 1) := by decide +kernel
theorem dX0_keep_21 : decode cX0_keep 21 = .ok (.invokevirtual 39, 3) := by decide +kernel
theorem dX0_keep_24 : decode cX0_keep 24 = .ok (.aload_n 0, 1) := by decide +kernel
theorem dX0_keep_25 : decode cX0_keep 25 = .ok (.iconst 1, 1) := by decide +kernel
theorem dX0_keep_26 : decode cX0_keep 26 = .ok (.putfield 42, 3) := by decide +kernel
theorem dX0_keep_29 : decode cX0_keep 29 = .ok (.return_, 1) := by decide +kernel
theorem dX1_init_0 : decode cX1_init 0 = .ok (.aload_n 0, 1) := by decide +kernel
theorem dX1_init_1 : decode cX1_init 1 = .ok (.invokespecial 1, 3) := by decide +kernel
theorem dX1_init_4 : decode cX1_init 4 = .ok (.return_, 1) := by decide +kernel
theorem dX1_start_0 : decode cX1_start 0 = .ok (.aload_n 0, 1) := by decide +kernel
theorem dX1_start_1 : decode cX1_start 1 = .ok (.iload_n 1, 1) := by decide +kernel
theorem dX1_start_2 : decode cX1_start 2 = .ok (.i2l, 1) := by decide +kernel
theorem dX1_start_3 : decode cX1_start 3 = .ok (.putfield 7, 3) := by decide +kernel
theorem dX1_start_6 : decode cX1_start 6 = .ok (.return_, 1) := by decide +kernel
theorem dX1_below_0 : decode cX1_below 0 = .ok (.aload_n 0, 1) := by decide +kernel
theorem dX1_below_1 : decode cX1_below 1 = .ok (.aload_n 0, 1) := by decide +kernel
theorem dX1_below_2 : decode cX1_below 2 = .ok (.getfield 7, 3) := by decide +kernel
theorem dX1_below_5 : decode cX1_below 5 = .ok (.ldc2_w 13, 3) := by decide +kernel
theorem dX1_below_8 : decode cX1_below 8 = .ok (.lmul, 1) := by decide +kernel
theorem dX1_below_9 : decode cX1_below 9 = .ok (.ldc2_w 15, 3) := by decide +kernel
theorem dX1_below_12 : decode cX1_below 12 = .ok (.ladd, 1) := by decide +kernel
theorem dX1_below_13 : decode cX1_below 13 = .ok (.ldc2_w 17, 3) := by decide +kernel
theorem dX1_below_16 : decode cX1_below 16 = .ok (.land, 1) := by decide +kernel
theorem dX1_below_17 : decode cX1_below 17 = .ok (.putfield 7, 3) := by decide +kernel
theorem dX1_below_20 : decode cX1_below 20 = .ok (.iload_n 1, 1) := by decide +kernel
theorem dX1_below_21 : decode cX1_below 21 = .ok (.ifCond .le 18, 3) := by decide +kernel
theorem dX1_below_24 : decode cX1_below 24 = .ok (.aload_n 0, 1) := by decide +kernel
theorem dX1_below_25 : decode cX1_below 25 = .ok (.getfield 7, 3) := by decide +kernel
theorem dX1_below_28 : decode cX1_below 28 = .ok (.ldc2_w 19, 3) := by decide +kernel
theorem dX1_below_31 : decode cX1_below 31 = .ok (.ldiv, 1) := by decide +kernel
theorem dX1_below_32 : decode cX1_below 32 = .ok (.iload_n 1, 1) := by decide +kernel
theorem dX1_below_33 : decode cX1_below 33 = .ok (.i2l, 1) := by decide +kernel
theorem dX1_below_34 : decode cX1_below 34 = .ok (.lrem, 1) := by decide +kernel
theorem dX1_below_35 : decode cX1_below 35 = .ok (.l2i, 1) := by decide +kernel
theorem dX1_below_36 : decode cX1_below 36 = .ok (.goto 4, 3) := by decide +kernel
theorem dX1_below_39 : decode cX1_below 39 = .ok (.iconst 0, 1) := by decide +kernel
theorem dX1_below_40 : decode cX1_below 40 = .ok (.ireturn, 1) := by decide +kernel
theorem dX2_init_0 : decode cX2_init 0 = .ok (.aload_n 0, 1) := by decide +kernel
theorem dX2_init_1 : decode cX2_init 1 = .ok (.invokespecial 1, 3) := by decide +kernel
theorem dX2_init_4 : decode cX2_init 4 = .ok (.aload_n 0, 1) := by decide +kernel
theorem dX2_init_5 : decode cX2_init 5 = .ok (.sipush 1000, 3) := by decide +kernel
theorem dX2_init_8 : decode cX2_init 8 = .ok (.newarray .int, 2) := by decide +kernel
theorem dX2_init_10 : decode cX2_init 10 = .ok (.putfield 9, 3) := by decide +kernel
theorem dX2_init_13 : decode cX2_init 13 = .ok (.aload_n 0, 1) := by decide +kernel
theorem dX2_init_14 : decode cX2_init 14 = .ok (.bipush 32, 2) := by decide +kernel
theorem dX2_init_16 : decode cX2_init 16 = .ok (.newarray .int, 2) := by decide +kernel
theorem dX2_init_18 : decode cX2_init 18 = .ok (.putfield 15, 3) := by decide +kernel
theorem dX2_init_21 : decode cX2_init 21 = .ok (.return_, 1) := by decide +kernel
theorem dX2_copyFrom_0 : decode cX2_copyFrom 0 = .ok (.aload_n 1, 1) := by decide +kernel
theorem dX2_copyFrom_1 : decode cX2_copyFrom 1 = .ok (.getfield 9, 3) := by decide +kernel
theorem dX2_copyFrom_4 : decode cX2_copyFrom 4 = .ok (.iconst 0, 1) := by decide +kernel
theorem dX2_copyFrom_5 : decode cX2_copyFrom 5 = .ok (.aload_n 0, 1) := by decide +kernel
theorem dX2_copyFrom_6 : decode cX2_copyFrom 6 = .ok (.getfield 9, 3) := by decide +kernel
theorem dX2_copyFrom_9 : decode cX2_copyFrom 9 = .ok (.iconst 0, 1) := by decide +kernel
theorem dX2_copyFrom_10 : decode cX2_copyFrom 10 = .ok (.aload_n 1, 1) := by decide +kernel
theorem dX2_copyFrom_11 : decode cX2_copyFrom 11 = .ok (.getfield 18, 3) := by decide +kernel
theorem dX2_copyFrom_14 : decode cX2_copyFrom 14 = .ok (.invokestatic 22, 3) := by decide +kernel
theorem dX2_copyFrom_17 : decode cX2_copyFrom 17 = .ok (.aload_n 0, 1) := by decide +kernel
theorem dX2_copyFrom_18 : decode cX2_copyFrom 18 = .ok (.aload_n 1, 1) := by decide +kernel
theorem dX2_copyFrom_19 : decode cX2_copyFrom 19 = .ok (.getfield 18, 3) := by decide +kernel
theorem dX2_copyFrom_22 : decode cX2_copyFrom 22 = .ok (.putfield 18, 3) := by decide +kernel
theorem dX2_copyFrom_25 : decode cX2_copyFrom 25 = .ok (.return_, 1) := by decide +kernel
theorem dX2_setUntold_0 : decode cX2_setUntold 0 = .ok (.aload_n 0, 1) := by decide +kernel
theorem dX2_setUntold_1 : decode cX2_setUntold 1 = .ok (.iconst 0, 1) := by decide +kernel
theorem dX2_setUntold_2 : decode cX2_setUntold 2 = .ok (.putfield 28, 3) := by decide +kernel
theorem dX2_setUntold_5 : decode cX2_setUntold 5 = .ok (.aload_n 0, 1) := by decide +kernel
theorem dX2_setUntold_6 : decode cX2_setUntold 6 = .ok (.iconst 0, 1) := by decide +kernel
theorem dX2_setUntold_7 : decode cX2_setUntold 7 = .ok (.putfield 18, 3) := by decide +kernel
theorem dX2_setUntold_10 : decode cX2_setUntold 10 = .ok (.aload_n 0, 1) := by decide +kernel
theorem dX2_setUntold_11 : decode cX2_setUntold 11 = .ok (.bipush (-2), 2) := by decide +kernel
theorem dX2_setUntold_13 : decode cX2_setUntold 13 = .ok (.invokevirtual 32, 3) := by decide +kernel
theorem dX2_setUntold_16 : decode cX2_setUntold 16 = .ok (.aload_n 0, 1) := by decide +kernel
theorem dX2_setUntold_17 : decode cX2_setUntold 17 = .ok (.iconst 2, 1) := by decide +kernel
theorem dX2_setUntold_18 : decode cX2_setUntold 18 = .ok (.invokevirtual 32, 3) := by decide +kernel
theorem dX2_setUntold_21 : decode cX2_setUntold 21 = .ok (.aload_n 0, 1) := by decide +kernel
theorem dX2_setUntold_22 : decode cX2_setUntold 22 = .ok (.bipush (-12), 2) := by decide +kernel
theorem dX2_setUntold_24 : decode cX2_setUntold 24 = .ok (.invokevirtual 32, 3) := by decide +kernel
theorem dX2_setUntold_27 : decode cX2_setUntold 27 = .ok (.aload_n 0, 1) := by decide +kernel
theorem dX2_setUntold_28 : decode cX2_setUntold 28 = .ok (.bipush (-3), 2) := by decide +kernel
theorem dX2_setUntold_30 : decode cX2_setUntold 30 = .ok (.invokevirtual 32, 3) := by decide +kernel
theorem dX2_setUntold_33 : decode cX2_setUntold 33 = .ok (.aload_n 0, 1) := by decide +kernel
theorem dX2_setUntold_34 : decode cX2_setUntold 34 = .ok (.bipush (-11), 2) := by decide +kernel
theorem dX2_setUntold_36 : decode cX2_setUntold 36 = .ok (.invokevirtual 32, 3) := by decide +kernel
theorem dX2_setUntold_39 : decode cX2_setUntold 39 = .ok (.aload_n 0, 1) := by decide +kernel
theorem dX2_setUntold_40 : decode cX2_setUntold 40 = .ok (.iconst (-1), 1) := by decide +kernel
theorem dX2_setUntold_41 : decode cX2_setUntold 41 = .ok (.invokevirtual 32, 3) := by decide +kernel
theorem dX2_setUntold_44 : decode cX2_setUntold 44 = .ok (.aload_n 0, 1) := by decide +kernel
theorem dX2_setUntold_45 : decode cX2_setUntold 45 = .ok (.bipush (-8), 2) := by decide +kernel
theorem dX2_setUntold_47 : decode cX2_setUntold 47 = .ok (.invokevirtual 32, 3) := by decide +kernel
theorem dX2_setUntold_50 : decode cX2_setUntold 50 = .ok (.return_, 1) := by decide +kernel
theorem dX2_add_0 : decode cX2_add 0 = .ok (.aload_n 0, 1) := by decide +kernel
theorem dX2_add_1 : decode cX2_add 1 = .ok (.getfield 18, 3) := by decide +kernel
theorem dX2_add_4 : decode cX2_add 4 = .ok (.aload_n 0, 1) := by decide +kernel
theorem dX2_add_5 : decode cX2_add 5 = .ok (.getfield 9, 3) := by decide +kernel
theorem dX2_add_8 : decode cX2_add 8 = .ok (.arraylength, 1) := by decide +kernel
theorem dX2_add_9 : decode cX2_add 9 = .ok (.if_icmp .ge 23, 3) := by decide +kernel
theorem dX2_add_12 : decode cX2_add 12 = .ok (.aload_n 0, 1) := by decide +kernel
theorem dX2_add_13 : decode cX2_add 13 = .ok (.getfield 9, 3) := by decide +kernel
theorem dX2_add_16 : decode cX2_add 16 = .ok (.aload_n 0, 1) := by decide +kernel
theorem dX2_add_17 : decode cX2_add 17 = .ok (.getfield 18, 3) := by decide +kernel
theorem dX2_add_20 : decode cX2_add 20 = .ok (.iload_n 1, 1) := by decide +kernel
theorem dX2_add_21 : decode cX2_add 21 = .ok (.iastore, 1) := by decide +kernel
theorem dX2_add_22 : decode cX2_add 22 = .ok (.aload_n 0, 1) := by decide +kernel
theorem dX2_add_23 : decode cX2_add 23 = .ok (.dup, 1) := by decide +kernel
theorem dX2_add_24 : decode cX2_add 24 = .ok (.getfield 18, 3) := by decide +kernel
theorem dX2_add_27 : decode cX2_add 27 = .ok (.iconst 1, 1) := by decide +kernel
theorem dX2_add_28 : decode cX2_add 28 = .ok (.iadd, 1) := by decide +kernel
theorem dX2_add_29 : decode cX2_add 29 = .ok (.putfield 18, 3) := by decide +kernel
theorem dX2_add_32 : decode cX2_add 32 = .ok (.return_, 1) := by decide +kernel
theorem dX2_readFrom_0 : decode cX2_readFrom 0 = .ok (.aload_n 0, 1) := by decide +kernel
theorem dX2_readFrom_1 : decode cX2_readFrom 1 = .ok (.getfield 28, 3) := by decide +kernel
theorem dX2_readFrom_4 : decode cX2_readFrom 4 = .ok (.ifCond .eq 9, 3) := by decide +kernel
theorem dX2_readFrom_7 : decode cX2_readFrom 7 = .ok (.aload_n 1, 1) := by decide +kernel
theorem dX2_readFrom_8 : decode cX2_readFrom 8 = .ok (.iconst 3, 1) := by decide +kernel
theorem dX2_readFrom_9 : decode cX2_readFrom 9 = .ok (.invokevirtual 36, 3) := by decide +kernel
theorem dX2_readFrom_12 : decode cX2_readFrom 12 = .ok (.return_, 1) := by decide +kernel
theorem dX2_readFrom_13 : decode cX2_readFrom 13 = .ok (.aload_n 0, 1) := by decide +kernel
theorem dX2_readFrom_14 : decode cX2_readFrom 14 = .ok (.iconst 1, 1) := by decide +kernel
theorem dX2_readFrom_15 : decode cX2_readFrom 15 = .ok (.putfield 28, 3) := by decide +kernel
theorem dX2_readFrom_18 : decode cX2_readFrom 18 = .ok (.aload_n 0, 1) := by decide +kernel
theorem dX2_readFrom_19 : decode cX2_readFrom 19 = .ok (.iconst 0, 1) := by decide +kernel
theorem dX2_readFrom_20 : decode cX2_readFrom 20 = .ok (.putfield 18, 3) := by decide +kernel
theorem dX2_readFrom_23 : decode cX2_readFrom 23 = .ok (.aload_n 1, 1) := by decide +kernel
theorem dX2_readFrom_24 : decode cX2_readFrom 24 = .ok (.invokevirtual 39, 3) := by decide +kernel
theorem dX2_readFrom_27 : decode cX2_readFrom 27 = .ok (.aload_n 0, 1) := by decide +kernel
theorem dX2_readFrom_28 : decode cX2_readFrom 28 = .ok (.aload_n 1, 1) := by decide +kernel
theorem dX2_readFrom_29 : decode cX2_readFrom 29 = .ok (.iconst 0, 1) := by decide +kernel
theorem dX2_readFrom_30 : decode cX2_readFrom 30 = .ok (.iconst 0, 1) := by decide +kernel
theorem dX2_readFrom_31 : decode cX2_readFrom 31 = .ok (.invokevirtual 42, 3) := by decide +kernel
theorem dX2_readFrom_34 : decode cX2_readFrom 34 = .ok (.aload_n 1, 1) := by decide +kernel
theorem dX2_readFrom_35 : decode cX2_readFrom 35 = .ok (.bipush 59, 2) := by decide +kernel
theorem dX2_readFrom_37 : decode cX2_readFrom 37 = .ok (.invokevirtual 46, 3) := by decide +kernel
theorem dX2_readFrom_40 : decode cX2_readFrom 40 = .ok (.return_, 1) := by decide +kernel
theorem dX2_readLevel_0 : decode cX2_readLevel 0 = .ok (.iload_n 2, 1) := by decide +kernel
theorem dX2_readLevel_1 : decode cX2_readLevel 1 = .ok (.iconst 3, 1) := by decide +kernel
theorem dX2_readLevel_2 : decode cX2_readLevel 2 = .ok (.if_icmp .le 10, 3) := by decide +kernel
theorem dX2_readLevel_5 : decode cX2_readLevel 5 = .ok (.aload_n 0, 1) := by decide +kernel
theorem dX2_readLevel_6 : decode cX2_readLevel 6 = .ok (.aload_n 1, 1) := by decide +kernel
theorem dX2_readLevel_7 : decode cX2_readLevel 7 = .ok (.iload_n 3, 1) := by decide +kernel
theorem dX2_readLevel_8 : decode cX2_readLevel 8 = .ok (.invokevirtual 50, 3) := by decide +kernel
theorem dX2_readLevel_11 : decode cX2_readLevel 11 = .ok (.return_, 1) := by decide +kernel
theorem dX2_readLevel_12 : decode cX2_readLevel 12 = .ok (.aload_n 0, 1) := by decide +kernel
theorem dX2_readLevel_13 : decode cX2_readLevel 13 = .ok (.aload_n 1, 1) := by decide +kernel
theorem dX2_readLevel_14 : decode cX2_readLevel 14 = .ok (.iload_n 2, 1) := by decide +kernel
theorem dX2_readLevel_15 : decode cX2_readLevel 15 = .ok (.iconst 1, 1) := by decide +kernel
theorem dX2_readLevel_16 : decode cX2_readLevel 16 = .ok (.iadd, 1) := by decide +kernel
theorem dX2_readLevel_17 : decode cX2_readLevel 17 = .ok (.iload_n 3, 1) := by decide +kernel
theorem dX2_readLevel_18 : decode cX2_readLevel 18 = .ok (.invokevirtual 42, 3) := by decide +kernel
theorem dX2_readLevel_21 : decode cX2_readLevel 21 = .ok (.iload_n 2, 1) := by decide +kernel
theorem dX2_readLevel_22 : decode cX2_readLevel 22 = .ok (.iconst 1, 1) := by decide +kernel
theorem dX2_readLevel_23 : decode cX2_readLevel 23 = .ok (.if_icmp .ne 7, 3) := by decide +kernel
theorem dX2_readLevel_26 : decode cX2_readLevel 26 = .ok (.iconst 1, 1) := by decide +kernel
theorem dX2_readLevel_27 : decode cX2_readLevel 27 = .ok (.goto 6, 3) := by decide +kernel
theorem dX2_readLevel_30 : decode cX2_readLevel 30 = .ok (.sipush 1000, 3) := by decide +kernel
theorem dX2_readLevel_33 : decode cX2_readLevel 33 = .ok (.istore 4, 2) := by decide +kernel
theorem dX2_readLevel_35 : decode cX2_readLevel 35 = .ok (.iconst 0, 1) := by decide +kernel
theorem dX2_readLevel_36 : decode cX2_readLevel 36 = .ok (.istore 5, 2) := by decide +kernel
theorem dX2_readLevel_38 : decode cX2_readLevel 38 = .ok (.iload 5, 2) := by decide +kernel
theorem dX2_readLevel_40 : decode cX2_readLevel 40 = .ok (.iload 4, 2) := by decide +kernel
theorem dX2_readLevel_42 : decode cX2_readLevel 42 = .ok (.if_icmp .ge 50, 3) := by decide +kernel
theorem dX2_readLevel_45 : decode cX2_readLevel 45 = .ok (.aload_n 1, 1) := by decide +kernel
theorem dX2_readLevel_46 : decode cX2_readLevel 46 = .ok (.invokevirtual 54, 3) := by decide +kernel
theorem dX2_readLevel_49 : decode cX2_readLevel 49 = .ok (.ifCond .eq 43, 3) := by decide +kernel
theorem dX2_readLevel_52 : decode cX2_readLevel 52 = .ok (.aload_n 1, 1) := by decide +kernel
theorem dX2_readLevel_53 : decode cX2_readLevel 53 = .ok (.iload_n 2, 1) := by decide +kernel
theorem dX2_readLevel_54 : decode cX2_readLevel 54 = .ok (.invokestatic 58, 3) := by decide +kernel
theorem dX2_readLevel_57 : decode cX2_readLevel 57 = .ok (.istore 6, 2) := by decide +kernel
theorem dX2_readLevel_59 : decode cX2_readLevel 59 = .ok (.iload 6, 2) := by decide +kernel
theorem dX2_readLevel_61 : decode cX2_readLevel 61 = .ok (.ifCond .ne 6, 3) := by decide +kernel
theorem dX2_readLevel_64 : decode cX2_readLevel 64 = .ok (.goto 28, 3) := by decide +kernel
theorem dX2_readLevel_67 : decode cX2_readLevel 67 = .ok (.aload_n 1, 1) := by decide +kernel
theorem dX2_readLevel_68 : decode cX2_readLevel 68 = .ok (.invokevirtual 39, 3) := by decide +kernel
theorem dX2_readLevel_71 : decode cX2_readLevel 71 = .ok (.aload_n 0, 1) := by decide +kernel
theorem dX2_readLevel_72 : decode cX2_readLevel 72 = .ok (.aload_n 1, 1) := by decide +kernel
theorem dX2_readLevel_73 : decode cX2_readLevel 73 = .ok (.iload_n 2, 1) := by decide +kernel
theorem dX2_readLevel_74 : decode cX2_readLevel 74 = .ok (.iconst 1, 1) := by decide +kernel
theorem dX2_readLevel_75 : decode cX2_readLevel 75 = .ok (.iadd, 1) := by decide +kernel
theorem dX2_readLevel_76 : decode cX2_readLevel 76 = .ok (.iload_n 3, 1) := by decide +kernel
theorem dX2_readLevel_77 : decode cX2_readLevel 77 = .ok (.invokevirtual 42, 3) := by decide +kernel
theorem dX2_readLevel_80 : decode cX2_readLevel 80 = .ok (.aload_n 0, 1) := by decide +kernel
theorem dX2_readLevel_81 : decode cX2_readLevel 81 = .ok (.iload 6, 2) := by decide +kernel
theorem dX2_readLevel_83 : decode cX2_readLevel 83 = .ok (.invokevirtual 32, 3) := by decide +kernel
theorem dX2_readLevel_86 : decode cX2_readLevel 86 = .ok (.iinc 5 1, 3) := by decide +kernel
theorem dX2_readLevel_89 : decode cX2_readLevel 89 = .ok (.goto (-51), 3) := by decide +kernel
theorem dX2_readLevel_92 : decode cX2_readLevel 92 = .ok (.return_, 1) := by decide +kernel
theorem dX2_jointAt_0 : decode cX2_jointAt 0 = .ok (.iload_n 1, 1) := by decide +kernel
theorem dX2_jointAt_1 : decode cX2_jointAt 1 = .ok (.tableswitch 117 0 2 #[27, 57, 87], 27) := by decide +kernel
theorem dX2_jointAt_28 : decode cX2_jointAt 28 = .ok (.aload_n 0, 1) := by decide +kernel
theorem dX2_jointAt_29 : decode cX2_jointAt 29 = .ok (.ldc 62, 2) := by decide +kernel
theorem dX2_jointAt_31 : decode cX2_jointAt 31 = .ok (.invokevirtual 64, 3) := by decide +kernel
theorem dX2_jointAt_34 : decode cX2_jointAt 34 = .ok (.ifCond .eq 8, 3) := by decide +kernel
theorem dX2_jointAt_37 : decode cX2_jointAt 37 = .ok (.bipush (-6), 2) := by decide +kernel
theorem dX2_jointAt_39 : decode cX2_jointAt 39 = .ok (.goto 18, 3) := by decide +kernel
theorem dX2_jointAt_42 : decode cX2_jointAt 42 = .ok (.aload_n 0, 1) := by decide +kernel
theorem dX2_jointAt_43 : decode cX2_jointAt 43 = .ok (.ldc 68, 2) := by decide +kernel
theorem dX2_jointAt_45 : decode cX2_jointAt 45 = .ok (.invokevirtual 64, 3) := by decide +kernel
theorem dX2_jointAt_48 : decode cX2_jointAt 48 = .ok (.ifCond .eq 8, 3) := by decide +kernel
theorem dX2_jointAt_51 : decode cX2_jointAt 51 = .ok (.bipush (-7), 2) := by decide +kernel
theorem dX2_jointAt_53 : decode cX2_jointAt 53 = .ok (.goto 4, 3) := by decide +kernel
theorem dX2_jointAt_56 : decode cX2_jointAt 56 = .ok (.iconst 0, 1) := by decide +kernel
theorem dX2_jointAt_57 : decode cX2_jointAt 57 = .ok (.ireturn, 1) := by decide +kernel
theorem dX2_jointAt_58 : decode cX2_jointAt 58 = .ok (.aload_n 0, 1) := by decide +kernel
theorem dX2_jointAt_59 : decode cX2_jointAt 59 = .ok (.bipush 60, 2) := by decide +kernel
theorem dX2_jointAt_61 : decode cX2_jointAt 61 = .ok (.invokevirtual 70, 3) := by decide +kernel
theorem dX2_jointAt_64 : decode cX2_jointAt 64 = .ok (.ifCond .eq 8, 3) := by decide +kernel
theorem dX2_jointAt_67 : decode cX2_jointAt 67 = .ok (.bipush (-8), 2) := by decide +kernel
theorem dX2_jointAt_69 : decode cX2_jointAt 69 = .ok (.goto 18, 3) := by decide +kernel
theorem dX2_jointAt_72 : decode cX2_jointAt 72 = .ok (.aload_n 0, 1) := by decide +kernel
theorem dX2_jointAt_73 : decode cX2_jointAt 73 = .ok (.bipush 61, 2) := by decide +kernel
theorem dX2_jointAt_75 : decode cX2_jointAt 75 = .ok (.invokevirtual 70, 3) := by decide +kernel
theorem dX2_jointAt_78 : decode cX2_jointAt 78 = .ok (.ifCond .eq 8, 3) := by decide +kernel
theorem dX2_jointAt_81 : decode cX2_jointAt 81 = .ok (.bipush (-9), 2) := by decide +kernel
theorem dX2_jointAt_83 : decode cX2_jointAt 83 = .ok (.goto 4, 3) := by decide +kernel
theorem dX2_jointAt_86 : decode cX2_jointAt 86 = .ok (.iconst 0, 1) := by decide +kernel
theorem dX2_jointAt_87 : decode cX2_jointAt 87 = .ok (.ireturn, 1) := by decide +kernel
theorem dX2_jointAt_88 : decode cX2_jointAt 88 = .ok (.aload_n 0, 1) := by decide +kernel
theorem dX2_jointAt_89 : decode cX2_jointAt 89 = .ok (.bipush 43, 2) := by decide +kernel
theorem dX2_jointAt_91 : decode cX2_jointAt 91 = .ok (.invokevirtual 70, 3) := by decide +kernel
theorem dX2_jointAt_94 : decode cX2_jointAt 94 = .ok (.ifCond .eq 8, 3) := by decide +kernel
theorem dX2_jointAt_97 : decode cX2_jointAt 97 = .ok (.bipush (-10), 2) := by decide +kernel
theorem dX2_jointAt_99 : decode cX2_jointAt 99 = .ok (.goto 18, 3) := by decide +kernel
theorem dX2_jointAt_102 : decode cX2_jointAt 102 = .ok (.aload_n 0, 1) := by decide +kernel
theorem dX2_jointAt_103 : decode cX2_jointAt 103 = .ok (.bipush 45, 2) := by decide +kernel
theorem dX2_jointAt_105 : decode cX2_jointAt 105 = .ok (.invokevirtual 70, 3) := by decide +kernel
theorem dX2_jointAt_108 : decode cX2_jointAt 108 = .ok (.ifCond .eq 8, 3) := by decide +kernel
theorem dX2_jointAt_111 : decode cX2_jointAt 111 = .ok (.bipush (-11), 2) := by decide +kernel
theorem dX2_jointAt_113 : decode cX2_jointAt 113 = .ok (.goto 4, 3) := by decide +kernel
theorem dX2_jointAt_116 : decode cX2_jointAt 116 = .ok (.iconst 0, 1) := by decide +kernel
theorem dX2_jointAt_117 : decode cX2_jointAt 117 = .ok (.ireturn, 1) := by decide +kernel
theorem dX2_jointAt_118 : decode cX2_jointAt 118 = .ok (.aload_n 0, 1) := by decide +kernel
theorem dX2_jointAt_119 : decode cX2_jointAt 119 = .ok (.bipush 42, 2) := by decide +kernel
theorem dX2_jointAt_121 : decode cX2_jointAt 121 = .ok (.invokevirtual 70, 3) := by decide +kernel
theorem dX2_jointAt_124 : decode cX2_jointAt 124 = .ok (.ifCond .eq 8, 3) := by decide +kernel
theorem dX2_jointAt_127 : decode cX2_jointAt 127 = .ok (.bipush (-12), 2) := by decide +kernel
theorem dX2_jointAt_129 : decode cX2_jointAt 129 = .ok (.goto 4, 3) := by decide +kernel
theorem dX2_jointAt_132 : decode cX2_jointAt 132 = .ok (.iconst 0, 1) := by decide +kernel
theorem dX2_jointAt_133 : decode cX2_jointAt 133 = .ok (.ireturn, 1) := by decide +kernel
theorem dX2_readPart_0 : decode cX2_readPart 0 = .ok (.aload_n 1, 1) := by decide +kernel
theorem dX2_readPart_1 : decode cX2_readPart 1 = .ok (.invokevirtual 54, 3) := by decide +kernel
theorem dX2_readPart_4 : decode cX2_readPart 4 = .ok (.ifCond .ne 4, 3) := by decide +kernel
theorem dX2_readPart_7 : decode cX2_readPart 7 = .ok (.return_, 1) := by decide +kernel
theorem dX2_readPart_8 : decode cX2_readPart 8 = .ok (.aload_n 1, 1) := by decide +kernel
theorem dX2_readPart_9 : decode cX2_readPart 9 = .ok (.invokestatic 74, 3) := by decide +kernel
theorem dX2_readPart_12 : decode cX2_readPart 12 = .ok (.istore_n 3, 1) := by decide +kernel
theorem dX2_readPart_13 : decode cX2_readPart 13 = .ok (.aload_n 1, 1) := by decide +kernel
theorem dX2_readPart_14 : decode cX2_readPart 14 = .ok (.ldc 78, 2) := by decide +kernel
theorem dX2_readPart_16 : decode cX2_readPart 16 = .ok (.invokevirtual 64, 3) := by decide +kernel
theorem dX2_readPart_19 : decode cX2_readPart 19 = .ok (.istore 4, 2) := by decide +kernel
theorem dX2_readPart_21 : decode cX2_readPart 21 = .ok (.iload_n 3, 1) := by decide +kernel
theorem dX2_readPart_22 : decode cX2_readPart 22 = .ok (.ifCond .ne 32, 3) := by decide +kernel
theorem dX2_readPart_25 : decode cX2_readPart 25 = .ok (.iload 4, 2) := by decide +kernel
theorem dX2_readPart_27 : decode cX2_readPart 27 = .ok (.ifCond .ne 27, 3) := by decide +kernel
theorem dX2_readPart_30 : decode cX2_readPart 30 = .ok (.aload_n 1, 1) := by decide +kernel
theorem dX2_readPart_31 : decode cX2_readPart 31 = .ok (.invokevirtual 80, 3) := by decide +kernel
theorem dX2_readPart_34 : decode cX2_readPart 34 = .ok (.ifCond .ne 20, 3) := by decide +kernel
theorem dX2_readPart_37 : decode cX2_readPart 37 = .ok (.aload_n 1, 1) := by decide +kernel
theorem dX2_readPart_38 : decode cX2_readPart 38 = .ok (.bipush 40, 2) := by decide +kernel
theorem dX2_readPart_40 : decode cX2_readPart 40 = .ok (.invokevirtual 70, 3) := by decide +kernel
theorem dX2_readPart_43 : decode cX2_readPart 43 = .ok (.ifCond .ne 11, 3) := by decide +kernel
theorem dX2_readPart_46 : decode cX2_readPart 46 = .ok (.aload_n 1, 1) := by decide +kernel
theorem dX2_readPart_47 : decode cX2_readPart 47 = .ok (.iconst 1, 1) := by decide +kernel
theorem dX2_readPart_48 : decode cX2_readPart 48 = .ok (.invokevirtual 36, 3) := by decide +kernel
theorem dX2_readPart_51 : decode cX2_readPart 51 = .ok (.goto 93, 3) := by decide +kernel
theorem dX2_readPart_54 : decode cX2_readPart 54 = .ok (.iload_n 2, 1) := by decide +kernel
theorem dX2_readPart_55 : decode cX2_readPart 55 = .ok (.iconst 4, 1) := by decide +kernel
theorem dX2_readPart_56 : decode cX2_readPart 56 = .ok (.if_icmp .le 11, 3) := by decide +kernel
theorem dX2_readPart_59 : decode cX2_readPart 59 = .ok (.aload_n 1, 1) := by decide +kernel
theorem dX2_readPart_60 : decode cX2_readPart 60 = .ok (.iconst 5, 1) := by decide +kernel
theorem dX2_readPart_61 : decode cX2_readPart 61 = .ok (.invokevirtual 36, 3) := by decide +kernel
theorem dX2_readPart_64 : decode cX2_readPart 64 = .ok (.goto 80, 3) := by decide +kernel
theorem dX2_readPart_67 : decode cX2_readPart 67 = .ok (.iload 4, 2) := by decide +kernel
theorem dX2_readPart_69 : decode cX2_readPart 69 = .ok (.ifCond .eq 24, 3) := by decide +kernel
theorem dX2_readPart_72 : decode cX2_readPart 72 = .ok (.aload_n 1, 1) := by decide +kernel
theorem dX2_readPart_73 : decode cX2_readPart 73 = .ok (.invokevirtual 39, 3) := by decide +kernel
theorem dX2_readPart_76 : decode cX2_readPart 76 = .ok (.aload_n 0, 1) := by decide +kernel
theorem dX2_readPart_77 : decode cX2_readPart 77 = .ok (.aload_n 1, 1) := by decide +kernel
theorem dX2_readPart_78 : decode cX2_readPart 78 = .ok (.iload_n 2, 1) := by decide +kernel
theorem dX2_readPart_79 : decode cX2_readPart 79 = .ok (.iconst 1, 1) := by decide +kernel
theorem dX2_readPart_80 : decode cX2_readPart 80 = .ok (.iadd, 1) := by decide +kernel
theorem dX2_readPart_81 : decode cX2_readPart 81 = .ok (.invokevirtual 50, 3) := by decide +kernel
theorem dX2_readPart_84 : decode cX2_readPart 84 = .ok (.aload_n 0, 1) := by decide +kernel
theorem dX2_readPart_85 : decode cX2_readPart 85 = .ok (.bipush (-5), 2) := by decide +kernel
theorem dX2_readPart_87 : decode cX2_readPart 87 = .ok (.invokevirtual 32, 3) := by decide +kernel
theorem dX2_readPart_90 : decode cX2_readPart 90 = .ok (.goto 54, 3) := by decide +kernel
theorem dX2_readPart_93 : decode cX2_readPart 93 = .ok (.aload_n 1, 1) := by decide +kernel
theorem dX2_readPart_94 : decode cX2_readPart 94 = .ok (.bipush 40, 2) := by decide +kernel
theorem dX2_readPart_96 : decode cX2_readPart 96 = .ok (.invokevirtual 70, 3) := by decide +kernel
theorem dX2_readPart_99 : decode cX2_readPart 99 = .ok (.ifCond .eq 25, 3) := by decide +kernel
theorem dX2_readPart_102 : decode cX2_readPart 102 = .ok (.aload_n 1, 1) := by decide +kernel
theorem dX2_readPart_103 : decode cX2_readPart 103 = .ok (.invokevirtual 39, 3) := by decide +kernel
theorem dX2_readPart_106 : decode cX2_readPart 106 = .ok (.aload_n 0, 1) := by decide +kernel
theorem dX2_readPart_107 : decode cX2_readPart 107 = .ok (.aload_n 1, 1) := by decide +kernel
theorem dX2_readPart_108 : decode cX2_readPart 108 = .ok (.iconst 0, 1) := by decide +kernel
theorem dX2_readPart_109 : decode cX2_readPart 109 = .ok (.iload_n 2, 1) := by decide +kernel
theorem dX2_readPart_110 : decode cX2_readPart 110 = .ok (.iconst 1, 1) := by decide +kernel
theorem dX2_readPart_111 : decode cX2_readPart 111 = .ok (.iadd, 1) := by decide +kernel
theorem dX2_readPart_112 : decode cX2_readPart 112 = .ok (.invokevirtual 42, 3) := by decide +kernel
theorem dX2_readPart_115 : decode cX2_readPart 115 = .ok (.aload_n 1, 1) := by decide +kernel
theorem dX2_readPart_116 : decode cX2_readPart 116 = .ok (.bipush 41, 2) := by decide +kernel
theorem dX2_readPart_118 : decode cX2_readPart 118 = .ok (.invokevirtual 46, 3) := by decide +kernel
theorem dX2_readPart_121 : decode cX2_readPart 121 = .ok (.goto 23, 3) := by decide +kernel
theorem dX2_readPart_124 : decode cX2_readPart 124 = .ok (.aload_n 0, 1) := by decide +kernel
theorem dX2_readPart_125 : decode cX2_readPart 125 = .ok (.iload_n 3, 1) := by decide +kernel
theorem dX2_readPart_126 : decode cX2_readPart 126 = .ok (.ifCond .ne 10, 3) := by decide +kernel
theorem dX2_readPart_129 : decode cX2_readPart 129 = .ok (.aload_n 1, 1) := by decide +kernel
theorem dX2_readPart_130 : decode cX2_readPart 130 = .ok (.getfield 83, 3) := by decide +kernel
theorem dX2_readPart_133 : decode cX2_readPart 133 = .ok (.goto 4, 3) := by decide +kernel
theorem dX2_readPart_136 : decode cX2_readPart 136 = .ok (.iload_n 3, 1) := by decide +kernel
theorem dX2_readPart_137 : decode cX2_readPart 137 = .ok (.invokevirtual 32, 3) := by decide +kernel
theorem dX2_readPart_140 : decode cX2_readPart 140 = .ok (.aload_n 1, 1) := by decide +kernel
theorem dX2_readPart_141 : decode cX2_readPart 141 = .ok (.invokevirtual 39, 3) := by decide +kernel
theorem dX2_readPart_144 : decode cX2_readPart 144 = .ok (.return_, 1) := by decide +kernel
theorem dX2_factAt_0 : decode cX2_factAt 0 = .ok (.aload_n 0, 1) := by decide +kernel
theorem dX2_factAt_1 : decode cX2_factAt 1 = .ok (.ldc 86, 2) := by decide +kernel
theorem dX2_factAt_3 : decode cX2_factAt 3 = .ok (.invokevirtual 64, 3) := by decide +kernel
theorem dX2_factAt_6 : decode cX2_factAt 6 = .ok (.ifCond .eq 5, 3) := by decide +kernel
theorem dX2_factAt_9 : decode cX2_factAt 9 = .ok (.iconst (-1), 1) := by decide +kernel
theorem dX2_factAt_10 : decode cX2_factAt 10 = .ok (.ireturn, 1) := by decide +kernel
theorem dX2_factAt_11 : decode cX2_factAt 11 = .ok (.aload_n 0, 1) := by decide +kernel
theorem dX2_factAt_12 : decode cX2_factAt 12 = .ok (.ldc 88, 2) := by decide +kernel
theorem dX2_factAt_14 : decode cX2_factAt 14 = .ok (.invokevirtual 64, 3) := by decide +kernel
theorem dX2_factAt_17 : decode cX2_factAt 17 = .ok (.ifCond .eq 6, 3) := by decide +kernel
theorem dX2_factAt_20 : decode cX2_factAt 20 = .ok (.bipush (-2), 2) := by decide +kernel
theorem dX2_factAt_22 : decode cX2_factAt 22 = .ok (.ireturn, 1) := by decide +kernel
theorem dX2_factAt_23 : decode cX2_factAt 23 = .ok (.aload_n 0, 1) := by decide +kernel
theorem dX2_factAt_24 : decode cX2_factAt 24 = .ok (.ldc 90, 2) := by decide +kernel
theorem dX2_factAt_26 : decode cX2_factAt 26 = .ok (.invokevirtual 64, 3) := by decide +kernel
theorem dX2_factAt_29 : decode cX2_factAt 29 = .ok (.ifCond .eq 6, 3) := by decide +kernel
theorem dX2_factAt_32 : decode cX2_factAt 32 = .ok (.bipush (-3), 2) := by decide +kernel
theorem dX2_factAt_34 : decode cX2_factAt 34 = .ok (.ireturn, 1) := by decide +kernel
theorem dX2_factAt_35 : decode cX2_factAt 35 = .ok (.aload_n 0, 1) := by decide +kernel
theorem dX2_factAt_36 : decode cX2_factAt 36 = .ok (.ldc 92, 2) := by decide +kernel
theorem dX2_factAt_38 : decode cX2_factAt 38 = .ok (.invokevirtual 64, 3) := by decide +kernel
theorem dX2_factAt_41 : decode cX2_factAt 41 = .ok (.ifCond .eq 8, 3) := by decide +kernel
theorem dX2_factAt_44 : decode cX2_factAt 44 = .ok (.bipush (-4), 2) := by decide +kernel
theorem dX2_factAt_46 : decode cX2_factAt 46 = .ok (.goto 4, 3) := by decide +kernel
theorem dX2_factAt_49 : decode cX2_factAt 49 = .ok (.iconst 0, 1) := by decide +kernel
theorem dX2_factAt_50 : decode cX2_factAt 50 = .ok (.ireturn, 1) := by decide +kernel
theorem dX2_holds_0 : decode cX2_holds 0 = .ok (.iconst 0, 1) := by decide +kernel
theorem dX2_holds_1 : decode cX2_holds 1 = .ok (.istore 5, 2) := by decide +kernel
theorem dX2_holds_3 : decode cX2_holds 3 = .ok (.iconst 0, 1) := by decide +kernel
theorem dX2_holds_4 : decode cX2_holds 4 = .ok (.istore 6, 2) := by decide +kernel
theorem dX2_holds_6 : decode cX2_holds 6 = .ok (.iload 6, 2) := by decide +kernel
theorem dX2_holds_8 : decode cX2_holds 8 = .ok (.aload_n 0, 1) := by decide +kernel
theorem dX2_holds_9 : decode cX2_holds 9 = .ok (.getfield 18, 3) := by decide +kernel
theorem dX2_holds_12 : decode cX2_holds 12 = .ok (.if_icmp .ge 176, 3) := by decide +kernel
theorem dX2_holds_15 : decode cX2_holds 15 = .ok (.aload_n 0, 1) := by decide +kernel
theorem dX2_holds_16 : decode cX2_holds 16 = .ok (.getfield 9, 3) := by decide +kernel
theorem dX2_holds_19 : decode cX2_holds 19 = .ok (.iload 6, 2) := by decide +kernel
theorem dX2_holds_21 : decode cX2_holds 21 = .ok (.iaload, 1) := by decide +kernel
theorem dX2_holds_22 : decode cX2_holds 22 = .ok (.istore 7, 2) := by decide +kernel
theorem dX2_holds_24 : decode cX2_holds 24 = .ok (.iload 7, 2) := by decide +kernel
theorem dX2_holds_26 : decode cX2_holds 26 = .ok (.bipush (-4), 2) := by decide +kernel
theorem dX2_holds_28 : decode cX2_holds 28 = .ok (.if_icmp .lt 69, 3) := by decide +kernel
theorem dX2_holds_31 : decode cX2_holds 31 = .ok (.iload 5, 2) := by decide +kernel
theorem dX2_holds_33 : decode cX2_holds 33 = .ok (.bipush 32, 2) := by decide +kernel
theorem dX2_holds_35 : decode cX2_holds 35 = .ok (.if_icmp .lt 5, 3) := by decide +kernel
theorem dX2_holds_38 : decode cX2_holds 38 = .ok (.iconst 0, 1) := by decide +kernel
theorem dX2_holds_39 : decode cX2_holds 39 = .ok (.ireturn, 1) := by decide +kernel
theorem dX2_holds_40 : decode cX2_holds 40 = .ok (.aload_n 0, 1) := by decide +kernel
theorem dX2_holds_41 : decode cX2_holds 41 = .ok (.getfield 15, 3) := by decide +kernel
theorem dX2_holds_44 : decode cX2_holds 44 = .ok (.iload 5, 2) := by decide +kernel
theorem dX2_holds_46 : decode cX2_holds 46 = .ok (.iload 7, 2) := by decide +kernel
theorem dX2_holds_48 : decode cX2_holds 48 = .ok (.ifCond .lt 8, 3) := by decide +kernel
theorem dX2_holds_51 : decode cX2_holds 51 = .ok (.iload 7, 2) := by decide +kernel
theorem dX2_holds_53 : decode cX2_holds 53 = .ok (.goto 37, 3) := by decide +kernel
theorem dX2_holds_56 : decode cX2_holds 56 = .ok (.iload 7, 2) := by decide +kernel
theorem dX2_holds_58 : decode cX2_holds 58 = .ok (.iconst (-1), 1) := by decide +kernel
theorem dX2_holds_59 : decode cX2_holds 59 = .ok (.if_icmp .ne 7, 3) := by decide +kernel
theorem dX2_holds_62 : decode cX2_holds 62 = .ok (.iload_n 1, 1) := by decide +kernel
theorem dX2_holds_63 : decode cX2_holds 63 = .ok (.goto 27, 3) := by decide +kernel
theorem dX2_holds_66 : decode cX2_holds 66 = .ok (.iload 7, 2) := by decide +kernel
theorem dX2_holds_68 : decode cX2_holds 68 = .ok (.bipush (-2), 2) := by decide +kernel
theorem dX2_holds_70 : decode cX2_holds 70 = .ok (.if_icmp .ne 7, 3) := by decide +kernel
theorem dX2_holds_73 : decode cX2_holds 73 = .ok (.iload_n 2, 1) := by decide +kernel
theorem dX2_holds_74 : decode cX2_holds 74 = .ok (.goto 16, 3) := by decide +kernel
theorem dX2_holds_77 : decode cX2_holds 77 = .ok (.iload 7, 2) := by decide +kernel
theorem dX2_holds_79 : decode cX2_holds 79 = .ok (.bipush (-3), 2) := by decide +kernel
theorem dX2_holds_81 : decode cX2_holds 81 = .ok (.if_icmp .ne 7, 3) := by decide +kernel
theorem dX2_holds_84 : decode cX2_holds 84 = .ok (.iload_n 3, 1) := by decide +kernel
theorem dX2_holds_85 : decode cX2_holds 85 = .ok (.goto 5, 3) := by decide +kernel
theorem dX2_holds_88 : decode cX2_holds 88 = .ok (.iload 4, 2) := by decide +kernel
theorem dX2_holds_90 : decode cX2_holds 90 = .ok (.iastore, 1) := by decide +kernel
theorem dX2_holds_91 : decode cX2_holds 91 = .ok (.iinc 5 1, 3) := by decide +kernel
theorem dX2_holds_94 : decode cX2_holds 94 = .ok (.goto 88, 3) := by decide +kernel
theorem dX2_holds_97 : decode cX2_holds 97 = .ok (.iload 7, 2) := by decide +kernel
theorem dX2_holds_99 : decode cX2_holds 99 = .ok (.bipush (-5), 2) := by decide +kernel
theorem dX2_holds_101 : decode cX2_holds 101 = .ok (.if_icmp .ne 40, 3) := by decide +kernel
theorem dX2_holds_104 : decode cX2_holds 104 = .ok (.iload 5, 2) := by decide +kernel
theorem dX2_holds_106 : decode cX2_holds 106 = .ok (.iconst 1, 1) := by decide +kernel
theorem dX2_holds_107 : decode cX2_holds 107 = .ok (.if_icmp .ge 5, 3) := by decide +kernel
theorem dX2_holds_110 : decode cX2_holds 110 = .ok (.iconst 0, 1) := by decide +kernel
theorem dX2_holds_111 : decode cX2_holds 111 = .ok (.ireturn, 1) := by decide +kernel
theorem dX2_holds_112 : decode cX2_holds 112 = .ok (.aload_n 0, 1) := by decide +kernel
theorem dX2_holds_113 : decode cX2_holds 113 = .ok (.getfield 15, 3) := by decide +kernel
theorem dX2_holds_116 : decode cX2_holds 116 = .ok (.iload 5, 2) := by decide +kernel
theorem dX2_holds_118 : decode cX2_holds 118 = .ok (.iconst 1, 1) := by decide +kernel
theorem dX2_holds_119 : decode cX2_holds 119 = .ok (.isub, 1) := by decide +kernel
theorem dX2_holds_120 : decode cX2_holds 120 = .ok (.aload_n 0, 1) := by decide +kernel
theorem dX2_holds_121 : decode cX2_holds 121 = .ok (.getfield 15, 3) := by decide +kernel
theorem dX2_holds_124 : decode cX2_holds 124 = .ok (.iload 5, 2) := by decide +kernel
theorem dX2_holds_126 : decode cX2_holds 126 = .ok (.iconst 1, 1) := by decide +kernel
theorem dX2_holds_127 : decode cX2_holds 127 = .ok (.isub, 1) := by decide +kernel
theorem dX2_holds_128 : decode cX2_holds 128 = .ok (.iaload, 1) := by decide +kernel
theorem dX2_holds_129 : decode cX2_holds 129 = .ok (.ifCond .ne 7, 3) := by decide +kernel
theorem dX2_holds_132 : decode cX2_holds 132 = .ok (.iconst 1, 1) := by decide +kernel
theorem dX2_holds_133 : decode cX2_holds 133 = .ok (.goto 4, 3) := by decide +kernel
theorem dX2_holds_136 : decode cX2_holds 136 = .ok (.iconst 0, 1) := by decide +kernel
theorem dX2_holds_137 : decode cX2_holds 137 = .ok (.iastore, 1) := by decide +kernel
theorem dX2_holds_138 : decode cX2_holds 138 = .ok (.goto 44, 3) := by decide +kernel
theorem dX2_holds_141 : decode cX2_holds 141 = .ok (.iload 5, 2) := by decide +kernel
theorem dX2_holds_143 : decode cX2_holds 143 = .ok (.iconst 2, 1) := by decide +kernel
theorem dX2_holds_144 : decode cX2_holds 144 = .ok (.if_icmp .ge 5, 3) := by decide +kernel
theorem dX2_holds_147 : decode cX2_holds 147 = .ok (.iconst 0, 1) := by decide +kernel
theorem dX2_holds_148 : decode cX2_holds 148 = .ok (.ireturn, 1) := by decide +kernel
theorem dX2_holds_149 : decode cX2_holds 149 = .ok (.iinc 5 (-1), 3) := by decide +kernel
theorem dX2_holds_152 : decode cX2_holds 152 = .ok (.aload_n 0, 1) := by decide +kernel
theorem dX2_holds_153 : decode cX2_holds 153 = .ok (.getfield 15, 3) := by decide +kernel
theorem dX2_holds_156 : decode cX2_holds 156 = .ok (.iload 5, 2) := by decide +kernel
theorem dX2_holds_158 : decode cX2_holds 158 = .ok (.iconst 1, 1) := by decide +kernel
theorem dX2_holds_159 : decode cX2_holds 159 = .ok (.isub, 1) := by decide +kernel
theorem dX2_holds_160 : decode cX2_holds 160 = .ok (.iload 7, 2) := by decide +kernel
theorem dX2_holds_162 : decode cX2_holds 162 = .ok (.aload_n 0, 1) := by decide +kernel
theorem dX2_holds_163 : decode cX2_holds 163 = .ok (.getfield 15, 3) := by decide +kernel
theorem dX2_holds_166 : decode cX2_holds 166 = .ok (.iload 5, 2) := by decide +kernel
theorem dX2_holds_168 : decode cX2_holds 168 = .ok (.iconst 1, 1) := by decide +kernel
theorem dX2_holds_169 : decode cX2_holds 169 = .ok (.isub, 1) := by decide +kernel
theorem dX2_holds_170 : decode cX2_holds 170 = .ok (.iaload, 1) := by decide +kernel
theorem dX2_holds_171 : decode cX2_holds 171 = .ok (.aload_n 0, 1) := by decide +kernel
theorem dX2_holds_172 : decode cX2_holds 172 = .ok (.getfield 15, 3) := by decide +kernel
theorem dX2_holds_175 : decode cX2_holds 175 = .ok (.iload 5, 2) := by decide +kernel
theorem dX2_holds_177 : decode cX2_holds 177 = .ok (.iaload, 1) := by decide +kernel
theorem dX2_holds_178 : decode cX2_holds 178 = .ok (.invokestatic 94, 3) := by decide +kernel
theorem dX2_holds_181 : decode cX2_holds 181 = .ok (.iastore, 1) := by decide +kernel
theorem dX2_holds_182 : decode cX2_holds 182 = .ok (.iinc 6 1, 3) := by decide +kernel
theorem dX2_holds_185 : decode cX2_holds 185 = .ok (.goto (-179), 3) := by decide +kernel
theorem dX2_holds_188 : decode cX2_holds 188 = .ok (.iload 5, 2) := by decide +kernel
theorem dX2_holds_190 : decode cX2_holds 190 = .ok (.iconst 1, 1) := by decide +kernel
theorem dX2_holds_191 : decode cX2_holds 191 = .ok (.if_icmp .ne 16, 3) := by decide +kernel
theorem dX2_holds_194 : decode cX2_holds 194 = .ok (.aload_n 0, 1) := by decide +kernel
theorem dX2_holds_195 : decode cX2_holds 195 = .ok (.getfield 15, 3) := by decide +kernel
theorem dX2_holds_198 : decode cX2_holds 198 = .ok (.iconst 0, 1) := by decide +kernel
theorem dX2_holds_199 : decode cX2_holds 199 = .ok (.iaload, 1) := by decide +kernel
theorem dX2_holds_200 : decode cX2_holds 200 = .ok (.ifCond .eq 7, 3) := by decide +kernel
theorem dX2_holds_203 : decode cX2_holds 203 = .ok (.iconst 1, 1) := by decide +kernel
theorem dX2_holds_204 : decode cX2_holds 204 = .ok (.goto 4, 3) := by decide +kernel
theorem dX2_holds_207 : decode cX2_holds 207 = .ok (.iconst 0, 1) := by decide +kernel
theorem dX2_holds_208 : decode cX2_holds 208 = .ok (.ireturn, 1) := by decide +kernel
theorem dX2_joined_0 : decode cX2_joined 0 = .ok (.iload_n 0, 1) := by decide +kernel
theorem dX2_joined_1 : decode cX2_joined 1 = .ok (.tableswitch 97 (-11) (-6) #[93, 89, 78, 67, 53, 39], 39) := by decide +kernel
theorem dX2_joined_40 : decode cX2_joined 40 = .ok (.iload_n 1, 1) := by decide +kernel
theorem dX2_joined_41 : decode cX2_joined 41 = .ok (.ifCond .eq 11, 3) := by decide +kernel
theorem dX2_joined_44 : decode cX2_joined 44 = .ok (.iload_n 2, 1) := by decide +kernel
theorem dX2_joined_45 : decode cX2_joined 45 = .ok (.ifCond .eq 7, 3) := by decide +kernel
theorem dX2_joined_48 : decode cX2_joined 48 = .ok (.iconst 1, 1) := by decide +kernel
theorem dX2_joined_49 : decode cX2_joined 49 = .ok (.goto 4, 3) := by decide +kernel
theorem dX2_joined_52 : decode cX2_joined 52 = .ok (.iconst 0, 1) := by decide +kernel
theorem dX2_joined_53 : decode cX2_joined 53 = .ok (.ireturn, 1) := by decide +kernel
theorem dX2_joined_54 : decode cX2_joined 54 = .ok (.iload_n 1, 1) := by decide +kernel
theorem dX2_joined_55 : decode cX2_joined 55 = .ok (.ifCond .ne 7, 3) := by decide +kernel
theorem dX2_joined_58 : decode cX2_joined 58 = .ok (.iload_n 2, 1) := by decide +kernel
theorem dX2_joined_59 : decode cX2_joined 59 = .ok (.ifCond .eq 7, 3) := by decide +kernel
theorem dX2_joined_62 : decode cX2_joined 62 = .ok (.iconst 1, 1) := by decide +kernel
theorem dX2_joined_63 : decode cX2_joined 63 = .ok (.goto 4, 3) := by decide +kernel
theorem dX2_joined_66 : decode cX2_joined 66 = .ok (.iconst 0, 1) := by decide +kernel
theorem dX2_joined_67 : decode cX2_joined 67 = .ok (.ireturn, 1) := by decide +kernel
theorem dX2_joined_68 : decode cX2_joined 68 = .ok (.iload_n 1, 1) := by decide +kernel
theorem dX2_joined_69 : decode cX2_joined 69 = .ok (.iload_n 2, 1) := by decide +kernel
theorem dX2_joined_70 : decode cX2_joined 70 = .ok (.if_icmp .ge 7, 3) := by decide +kernel
theorem dX2_joined_73 : decode cX2_joined 73 = .ok (.iconst 1, 1) := by decide +kernel
theorem dX2_joined_74 : decode cX2_joined 74 = .ok (.goto 4, 3) := by decide +kernel
theorem dX2_joined_77 : decode cX2_joined 77 = .ok (.iconst 0, 1) := by decide +kernel
theorem dX2_joined_78 : decode cX2_joined 78 = .ok (.ireturn, 1) := by decide +kernel
theorem dX2_joined_79 : decode cX2_joined 79 = .ok (.iload_n 1, 1) := by decide +kernel
theorem dX2_joined_80 : decode cX2_joined 80 = .ok (.iload_n 2, 1) := by decide +kernel
theorem dX2_joined_81 : decode cX2_joined 81 = .ok (.if_icmp .ne 7, 3) := by decide +kernel
theorem dX2_joined_84 : decode cX2_joined 84 = .ok (.iconst 1, 1) := by decide +kernel
theorem dX2_joined_85 : decode cX2_joined 85 = .ok (.goto 4, 3) := by decide +kernel
theorem dX2_joined_88 : decode cX2_joined 88 = .ok (.iconst 0, 1) := by decide +kernel
theorem dX2_joined_89 : decode cX2_joined 89 = .ok (.ireturn, 1) := by decide +kernel
theorem dX2_joined_90 : decode cX2_joined 90 = .ok (.iload_n 1, 1) := by decide +kernel
theorem dX2_joined_91 : decode cX2_joined 91 = .ok (.iload_n 2, 1) := by decide +kernel
theorem dX2_joined_92 : decode cX2_joined 92 = .ok (.iadd, 1) := by decide +kernel
theorem dX2_joined_93 : decode cX2_joined 93 = .ok (.ireturn, 1) := by decide +kernel
theorem dX2_joined_94 : decode cX2_joined 94 = .ok (.iload_n 1, 1) := by decide +kernel
theorem dX2_joined_95 : decode cX2_joined 95 = .ok (.iload_n 2, 1) := by decide +kernel
theorem dX2_joined_96 : decode cX2_joined 96 = .ok (.isub, 1) := by decide +kernel
theorem dX2_joined_97 : decode cX2_joined 97 = .ok (.ireturn, 1) := by decide +kernel
theorem dX2_joined_98 : decode cX2_joined 98 = .ok (.iload_n 1, 1) := by decide +kernel
theorem dX2_joined_99 : decode cX2_joined 99 = .ok (.iload_n 2, 1) := by decide +kernel
theorem dX2_joined_100 : decode cX2_joined 100 = .ok (.imul, 1) := by decide +kernel
theorem dX2_joined_101 : decode cX2_joined 101 = .ok (.ireturn, 1) := by decide +kernel
theorem dX3_init_0 : decode cX3_init 0 = .ok (.aload_n 0, 1) := by decide +kernel
theorem dX3_init_1 : decode cX3_init 1 = .ok (.invokespecial 3, 3) := by decide +kernel
theorem dX3_init_4 : decode cX3_init 4 = .ok (.aload_n 0, 1) := by decide +kernel
theorem dX3_init_5 : decode cX3_init 5 = .ok (.bipush 6, 2) := by decide +kernel
theorem dX3_init_7 : decode cX3_init 7 = .ok (.newarray .int, 2) := by decide +kernel
theorem dX3_init_9 : decode cX3_init 9 = .ok (.putfield 9, 3) := by decide +kernel
theorem dX3_init_12 : decode cX3_init 12 = .ok (.aload_n 0, 1) := by decide +kernel
theorem dX3_init_13 : decode cX3_init 13 = .ok (.bipush 6, 2) := by decide +kernel
theorem dX3_init_15 : decode cX3_init 15 = .ok (.newarray .int, 2) := by decide +kernel
theorem dX3_init_17 : decode cX3_init 17 = .ok (.putfield 15, 3) := by decide +kernel
theorem dX3_init_20 : decode cX3_init 20 = .ok (.aload_n 0, 1) := by decide +kernel
theorem dX3_init_21 : decode cX3_init 21 = .ok (.bipush 18, 2) := by decide +kernel
theorem dX3_init_23 : decode cX3_init 23 = .ok (.newarray .int, 2) := by decide +kernel
theorem dX3_init_25 : decode cX3_init 25 = .ok (.putfield 18, 3) := by decide +kernel
theorem dX3_init_28 : decode cX3_init 28 = .ok (.aload_n 0, 1) := by decide +kernel
theorem dX3_init_29 : decode cX3_init 29 = .ok (.aload_n 1, 1) := by decide +kernel
theorem dX3_init_30 : decode cX3_init 30 = .ok (.putfield 21, 3) := by decide +kernel
theorem dX3_init_33 : decode cX3_init 33 = .ok (.return_, 1) := by decide +kernel
theorem dX3_find_0 : decode cX3_find 0 = .ok (.iload_n 1, 1) := by decide +kernel
theorem dX3_find_1 : decode cX3_find 1 = .ok (.istore_n 2, 1) := by decide +kernel
theorem dX3_find_2 : decode cX3_find 2 = .ok (.aload_n 0, 1) := by decide +kernel
theorem dX3_find_3 : decode cX3_find 3 = .ok (.aload_n 0, 1) := by decide +kernel
theorem dX3_find_4 : decode cX3_find 4 = .ok (.getfield 21, 3) := by decide +kernel
theorem dX3_find_7 : decode cX3_find 7 = .ok (.getfield 25, 3) := by decide +kernel
theorem dX3_find_10 : decode cX3_find 10 = .ok (.putfield 31, 3) := by decide +kernel
theorem dX3_find_13 : decode cX3_find 13 = .ok (.aload_n 0, 1) := by decide +kernel
theorem dX3_find_14 : decode cX3_find 14 = .ok (.getfield 31, 3) := by decide +kernel
theorem dX3_find_17 : decode cX3_find 17 = .ok (.ifCond .le 29, 3) := by decide +kernel
theorem dX3_find_20 : decode cX3_find 20 = .ok (.aload_n 0, 1) := by decide +kernel
theorem dX3_find_21 : decode cX3_find 21 = .ok (.aload_n 0, 1) := by decide +kernel
theorem dX3_find_22 : decode cX3_find 22 = .ok (.getfield 31, 3) := by decide +kernel
theorem dX3_find_25 : decode cX3_find 25 = .ok (.iconst 0, 1) := by decide +kernel
theorem dX3_find_26 : decode cX3_find 26 = .ok (.iload_n 2, 1) := by decide +kernel
theorem dX3_find_27 : decode cX3_find 27 = .ok (.invokevirtual 34, 3) := by decide +kernel
theorem dX3_find_30 : decode cX3_find 30 = .ok (.ifCond .ne 16, 3) := by decide +kernel
theorem dX3_find_33 : decode cX3_find 33 = .ok (.aload_n 0, 1) := by decide +kernel
theorem dX3_find_34 : decode cX3_find 34 = .ok (.dup, 1) := by decide +kernel
theorem dX3_find_35 : decode cX3_find 35 = .ok (.getfield 31, 3) := by decide +kernel
theorem dX3_find_38 : decode cX3_find 38 = .ok (.iconst 1, 1) := by decide +kernel
theorem dX3_find_39 : decode cX3_find 39 = .ok (.isub, 1) := by decide +kernel
theorem dX3_find_40 : decode cX3_find 40 = .ok (.putfield 31, 3) := by decide +kernel
theorem dX3_find_43 : decode cX3_find 43 = .ok (.goto (-30), 3) := by decide +kernel
theorem dX3_find_46 : decode cX3_find 46 = .ok (.aload_n 0, 1) := by decide +kernel
theorem dX3_find_47 : decode cX3_find 47 = .ok (.getfield 31, 3) := by decide +kernel
theorem dX3_find_50 : decode cX3_find 50 = .ok (.istore_n 3, 1) := by decide +kernel
theorem dX3_find_51 : decode cX3_find 51 = .ok (.iconst 0, 1) := by decide +kernel
theorem dX3_find_52 : decode cX3_find 52 = .ok (.istore 4, 2) := by decide +kernel
theorem dX3_find_54 : decode cX3_find 54 = .ok (.iload 4, 2) := by decide +kernel
theorem dX3_find_56 : decode cX3_find 56 = .ok (.aload_n 0, 1) := by decide +kernel
theorem dX3_find_57 : decode cX3_find 57 = .ok (.getfield 21, 3) := by decide +kernel
theorem dX3_find_60 : decode cX3_find 60 = .ok (.getfield 25, 3) := by decide +kernel
theorem dX3_find_63 : decode cX3_find 63 = .ok (.if_icmp .ge 66, 3) := by decide +kernel
theorem dX3_find_66 : decode cX3_find 66 = .ok (.aload_n 0, 1) := by decide +kernel
theorem dX3_find_67 : decode cX3_find 67 = .ok (.getfield 9, 3) := by decide +kernel
theorem dX3_find_70 : decode cX3_find 70 = .ok (.iload 4, 2) := by decide +kernel
theorem dX3_find_72 : decode cX3_find 72 = .ok (.iload_n 3, 1) := by decide +kernel
theorem dX3_find_73 : decode cX3_find 73 = .ok (.ifCond .le 16, 3) := by decide +kernel
theorem dX3_find_76 : decode cX3_find 76 = .ok (.aload_n 0, 1) := by decide +kernel
theorem dX3_find_77 : decode cX3_find 77 = .ok (.iload_n 3, 1) := by decide +kernel
theorem dX3_find_78 : decode cX3_find 78 = .ok (.iconst 1, 1) := by decide +kernel
theorem dX3_find_79 : decode cX3_find 79 = .ok (.isub, 1) := by decide +kernel
theorem dX3_find_80 : decode cX3_find 80 = .ok (.iload 4, 2) := by decide +kernel
theorem dX3_find_82 : decode cX3_find 82 = .ok (.iload_n 2, 1) := by decide +kernel
theorem dX3_find_83 : decode cX3_find 83 = .ok (.invokevirtual 38, 3) := by decide +kernel
theorem dX3_find_86 : decode cX3_find 86 = .ok (.goto 4, 3) := by decide +kernel
theorem dX3_find_89 : decode cX3_find 89 = .ok (.iconst (-1), 1) := by decide +kernel
theorem dX3_find_90 : decode cX3_find 90 = .ok (.iastore, 1) := by decide +kernel
theorem dX3_find_91 : decode cX3_find 91 = .ok (.aload_n 0, 1) := by decide +kernel
theorem dX3_find_92 : decode cX3_find 92 = .ok (.getfield 9, 3) := by decide +kernel
theorem dX3_find_95 : decode cX3_find 95 = .ok (.iload 4, 2) := by decide +kernel
theorem dX3_find_97 : decode cX3_find 97 = .ok (.iaload, 1) := by decide +kernel
theorem dX3_find_98 : decode cX3_find 98 = .ok (.iconst (-1), 1) := by decide +kernel
theorem dX3_find_99 : decode cX3_find 99 = .ok (.if_icmp .eq 24, 3) := by decide +kernel
theorem dX3_find_102 : decode cX3_find 102 = .ok (.iload_n 2, 1) := by decide +kernel
theorem dX3_find_103 : decode cX3_find 103 = .ok (.aload_n 0, 1) := by decide +kernel
theorem dX3_find_104 : decode cX3_find 104 = .ok (.iload 4, 2) := by decide +kernel
theorem dX3_find_106 : decode cX3_find 106 = .ok (.aload_n 0, 1) := by decide +kernel
theorem dX3_find_107 : decode cX3_find 107 = .ok (.getfield 9, 3) := by decide +kernel
theorem dX3_find_110 : decode cX3_find 110 = .ok (.iload 4, 2) := by decide +kernel
theorem dX3_find_112 : decode cX3_find 112 = .ok (.iaload, 1) := by decide +kernel
theorem dX3_find_113 : decode cX3_find 113 = .ok (.invokevirtual 42, 3) := by decide +kernel
theorem dX3_find_116 : decode cX3_find 116 = .ok (.iconst (-1), 1) := by decide +kernel
theorem dX3_find_117 : decode cX3_find 117 = .ok (.ixor, 1) := by decide +kernel
theorem dX3_find_118 : decode cX3_find 118 = .ok (.iand, 1) := by decide +kernel
theorem dX3_find_119 : decode cX3_find 119 = .ok (.istore_n 2, 1) := by decide +kernel
theorem dX3_find_120 : decode cX3_find 120 = .ok (.iinc 3 (-1), 3) := by decide +kernel
theorem dX3_find_123 : decode cX3_find 123 = .ok (.iinc 4 1, 3) := by decide +kernel
theorem dX3_find_126 : decode cX3_find 126 = .ok (.goto (-72), 3) := by decide +kernel
theorem dX3_find_129 : decode cX3_find 129 = .ok (.return_, 1) := by decide +kernel
theorem dX3_linesOf_0 : decode cX3_linesOf 0 = .ok (.iconst 1, 1) := by decide +kernel
theorem dX3_linesOf_1 : decode cX3_linesOf 1 = .ok (.aload_n 0, 1) := by decide +kernel
theorem dX3_linesOf_2 : decode cX3_linesOf 2 = .ok (.getfield 21, 3) := by decide +kernel
theorem dX3_linesOf_5 : decode cX3_linesOf 5 = .ok (.getfield 46, 3) := by decide +kernel
theorem dX3_linesOf_8 : decode cX3_linesOf 8 = .ok (.iload_n 1, 1) := by decide +kernel
theorem dX3_linesOf_9 : decode cX3_linesOf 9 = .ok (.iaload, 1) := by decide +kernel
theorem dX3_linesOf_10 : decode cX3_linesOf 10 = .ok (.ishl, 1) := by decide +kernel
theorem dX3_linesOf_11 : decode cX3_linesOf 11 = .ok (.iconst 1, 1) := by decide +kernel
theorem dX3_linesOf_12 : decode cX3_linesOf 12 = .ok (.isub, 1) := by decide +kernel
theorem dX3_linesOf_13 : decode cX3_linesOf 13 = .ok (.iload_n 2, 1) := by decide +kernel
theorem dX3_linesOf_14 : decode cX3_linesOf 14 = .ok (.ishl, 1) := by decide +kernel
theorem dX3_linesOf_15 : decode cX3_linesOf 15 = .ok (.ireturn, 1) := by decide +kernel
theorem dX3_firstPlaceLeaving_0 : decode cX3_firstPlaceLeaving 0 = .ok (.iconst 0, 1) := by decide +kernel
theorem dX3_firstPlaceLeaving_1 : decode cX3_firstPlaceLeaving 1 = .ok (.istore 4, 2) := by decide +kernel
theorem dX3_firstPlaceLeaving_3 : decode cX3_firstPlaceLeaving 3 = .ok (.iload 4, 2) := by decide +kernel
theorem dX3_firstPlaceLeaving_5 : decode cX3_firstPlaceLeaving 5 = .ok (.bipush 18, 2) := by decide +kernel
theorem dX3_firstPlaceLeaving_7 : decode cX3_firstPlaceLeaving 7 = .ok (.if_icmp .ge 79, 3) := by decide +kernel
theorem dX3_firstPlaceLeaving_10 : decode cX3_firstPlaceLeaving 10 = .ok (.aload_n 0, 1) := by decide +kernel
theorem dX3_firstPlaceLeaving_11 : decode cX3_firstPlaceLeaving 11 = .ok (.iload_n 2, 1) := by decide +kernel
theorem dX3_firstPlaceLeaving_12 : decode cX3_firstPlaceLeaving 12 = .ok (.iload 4, 2) := by decide +kernel
theorem dX3_firstPlaceLeaving_14 : decode cX3_firstPlaceLeaving 14 = .ok (.invokevirtual 42, 3) := by decide +kernel
theorem dX3_firstPlaceLeaving_17 : decode cX3_firstPlaceLeaving 17 = .ok (.istore 5, 2) := by decide +kernel
theorem dX3_firstPlaceLeaving_19 : decode cX3_firstPlaceLeaving 19 = .ok (.iload 4, 2) := by decide +kernel
theorem dX3_firstPlaceLeaving_21 : decode cX3_firstPlaceLeaving 21 = .ok (.bipush 6, 2) := by decide +kernel
theorem dX3_firstPlaceLeaving_23 : decode cX3_firstPlaceLeaving 23 = .ok (.irem, 1) := by decide +kernel
theorem dX3_firstPlaceLeaving_24 : decode cX3_firstPlaceLeaving 24 = .ok (.aload_n 0, 1) := by decide +kernel
theorem dX3_firstPlaceLeaving_25 : decode cX3_firstPlaceLeaving 25 = .ok (.getfield 21, 3) := by decide +kernel
theorem dX3_firstPlaceLeaving_28 : decode cX3_firstPlaceLeaving 28 = .ok (.getfield 46, 3) := by decide +kernel
theorem dX3_firstPlaceLeaving_31 : decode cX3_firstPlaceLeaving 31 = .ok (.iload_n 2, 1) := by decide +kernel
theorem dX3_firstPlaceLeaving_32 : decode cX3_firstPlaceLeaving 32 = .ok (.iaload, 1) := by decide +kernel
theorem dX3_firstPlaceLeaving_33 : decode cX3_firstPlaceLeaving 33 = .ok (.iadd, 1) := by decide +kernel
theorem dX3_firstPlaceLeaving_34 : decode cX3_firstPlaceLeaving 34 = .ok (.bipush 6, 2) := by decide +kernel
theorem dX3_firstPlaceLeaving_36 : decode cX3_firstPlaceLeaving 36 = .ok (.if_icmp .gt 7, 3) := by decide +kernel
theorem dX3_firstPlaceLeaving_39 : decode cX3_firstPlaceLeaving 39 = .ok (.iconst 1, 1) := by decide +kernel
theorem dX3_firstPlaceLeaving_40 : decode cX3_firstPlaceLeaving 40 = .ok (.goto 4, 3) := by decide +kernel
theorem dX3_firstPlaceLeaving_43 : decode cX3_firstPlaceLeaving 43 = .ok (.iconst 0, 1) := by decide +kernel
theorem dX3_firstPlaceLeaving_44 : decode cX3_firstPlaceLeaving 44 = .ok (.istore 6, 2) := by decide +kernel
theorem dX3_firstPlaceLeaving_46 : decode cX3_firstPlaceLeaving 46 = .ok (.iload 6, 2) := by decide +kernel
theorem dX3_firstPlaceLeaving_48 : decode cX3_firstPlaceLeaving 48 = .ok (.ifCond .eq 32, 3) := by decide +kernel
theorem dX3_firstPlaceLeaving_51 : decode cX3_firstPlaceLeaving 51 = .ok (.iload 5, 2) := by decide +kernel
theorem dX3_firstPlaceLeaving_53 : decode cX3_firstPlaceLeaving 53 = .ok (.iload_n 3, 1) := by decide +kernel
theorem dX3_firstPlaceLeaving_54 : decode cX3_firstPlaceLeaving 54 = .ok (.iconst (-1), 1) := by decide +kernel
theorem dX3_firstPlaceLeaving_55 : decode cX3_firstPlaceLeaving 55 = .ok (.ixor, 1) := by decide +kernel
theorem dX3_firstPlaceLeaving_56 : decode cX3_firstPlaceLeaving 56 = .ok (.iand, 1) := by decide +kernel
theorem dX3_firstPlaceLeaving_57 : decode cX3_firstPlaceLeaving 57 = .ok (.ifCond .ne 23, 3) := by decide +kernel
theorem dX3_firstPlaceLeaving_60 : decode cX3_firstPlaceLeaving 60 = .ok (.aload_n 0, 1) := by decide +kernel
theorem dX3_firstPlaceLeaving_61 : decode cX3_firstPlaceLeaving 61 = .ok (.iload_n 1, 1) := by decide +kernel
theorem dX3_firstPlaceLeaving_62 : decode cX3_firstPlaceLeaving 62 = .ok (.iload_n 2, 1) := by decide +kernel
theorem dX3_firstPlaceLeaving_63 : decode cX3_firstPlaceLeaving 63 = .ok (.iconst 1, 1) := by decide +kernel
theorem dX3_firstPlaceLeaving_64 : decode cX3_firstPlaceLeaving 64 = .ok (.iadd, 1) := by decide +kernel
theorem dX3_firstPlaceLeaving_65 : decode cX3_firstPlaceLeaving 65 = .ok (.iload_n 3, 1) := by decide +kernel
theorem dX3_firstPlaceLeaving_66 : decode cX3_firstPlaceLeaving 66 = .ok (.iload 5, 2) := by decide +kernel
theorem dX3_firstPlaceLeaving_68 : decode cX3_firstPlaceLeaving 68 = .ok (.iconst (-1), 1) := by decide +kernel
theorem dX3_firstPlaceLeaving_69 : decode cX3_firstPlaceLeaving 69 = .ok (.ixor, 1) := by decide +kernel
theorem dX3_firstPlaceLeaving_70 : decode cX3_firstPlaceLeaving 70 = .ok (.iand, 1) := by decide +kernel
theorem dX3_firstPlaceLeaving_71 : decode cX3_firstPlaceLeaving 71 = .ok (.invokevirtual 34, 3) := by decide +kernel
theorem dX3_firstPlaceLeaving_74 : decode cX3_firstPlaceLeaving 74 = .ok (.ifCond .eq 6, 3) := by decide +kernel
theorem dX3_firstPlaceLeaving_77 : decode cX3_firstPlaceLeaving 77 = .ok (.iload 4, 2) := by decide +kernel
theorem dX3_firstPlaceLeaving_79 : decode cX3_firstPlaceLeaving 79 = .ok (.ireturn, 1) := by decide +kernel
theorem dX3_firstPlaceLeaving_80 : decode cX3_firstPlaceLeaving 80 = .ok (.iinc 4 1, 3) := by decide +kernel
theorem dX3_firstPlaceLeaving_83 : decode cX3_firstPlaceLeaving 83 = .ok (.goto (-80), 3) := by decide +kernel
theorem dX3_firstPlaceLeaving_86 : decode cX3_firstPlaceLeaving 86 = .ok (.iconst (-1), 1) := by decide +kernel
theorem dX3_firstPlaceLeaving_87 : decode cX3_firstPlaceLeaving 87 = .ok (.ireturn, 1) := by decide +kernel
theorem dX3_canLay_0 : decode cX3_canLay 0 = .ok (.aload_n 0, 1) := by decide +kernel
theorem dX3_canLay_1 : decode cX3_canLay 1 = .ok (.iload_n 1, 1) := by decide +kernel
theorem dX3_canLay_2 : decode cX3_canLay 2 = .ok (.iload_n 2, 1) := by decide +kernel
theorem dX3_canLay_3 : decode cX3_canLay 3 = .ok (.invokevirtual 49, 3) := by decide +kernel
theorem dX3_canLay_6 : decode cX3_canLay 6 = .ok (.aload_n 0, 1) := by decide +kernel
theorem dX3_canLay_7 : decode cX3_canLay 7 = .ok (.getfield 53, 3) := by decide +kernel
theorem dX3_canLay_10 : decode cX3_canLay 10 = .ok (.iload_n 1, 1) := by decide +kernel
theorem dX3_canLay_11 : decode cX3_canLay 11 = .ok (.if_icmp .ge 5, 3) := by decide +kernel
theorem dX3_canLay_14 : decode cX3_canLay 14 = .ok (.iconst 0, 1) := by decide +kernel
theorem dX3_canLay_15 : decode cX3_canLay 15 = .ok (.ireturn, 1) := by decide +kernel
theorem dX3_canLay_16 : decode cX3_canLay 16 = .ok (.aload_n 0, 1) := by decide +kernel
theorem dX3_canLay_17 : decode cX3_canLay 17 = .ok (.iload_n 3, 1) := by decide +kernel
theorem dX3_canLay_18 : decode cX3_canLay 18 = .ok (.invokevirtual 56, 3) := by decide +kernel
theorem dX3_canLay_21 : decode cX3_canLay 21 = .ok (.aload_n 0, 1) := by decide +kernel
theorem dX3_canLay_22 : decode cX3_canLay 22 = .ok (.iconst 0, 1) := by decide +kernel
theorem dX3_canLay_23 : decode cX3_canLay 23 = .ok (.invokevirtual 60, 3) := by decide +kernel
theorem dX3_canLay_26 : decode cX3_canLay 26 = .ok (.ireturn, 1) := by decide +kernel
theorem dX3_gatherShortest_0 : decode cX3_gatherShortest 0 = .ok (.aload_n 0, 1) := by decide +kernel
theorem dX3_gatherShortest_1 : decode cX3_gatherShortest 1 = .ok (.iconst 0, 1) := by decide +kernel
theorem dX3_gatherShortest_2 : decode cX3_gatherShortest 2 = .ok (.putfield 53, 3) := by decide +kernel
theorem dX3_gatherShortest_5 : decode cX3_gatherShortest 5 = .ok (.iconst 1, 1) := by decide +kernel
theorem dX3_gatherShortest_6 : decode cX3_gatherShortest 6 = .ok (.istore_n 3, 1) := by decide +kernel
theorem dX3_gatherShortest_7 : decode cX3_gatherShortest 7 = .ok (.iload_n 3, 1) := by decide +kernel
theorem dX3_gatherShortest_8 : decode cX3_gatherShortest 8 = .ok (.bipush 6, 2) := by decide +kernel
theorem dX3_gatherShortest_10 : decode cX3_gatherShortest 10 = .ok (.if_icmp .gt 72, 3) := by decide +kernel
theorem dX3_gatherShortest_13 : decode cX3_gatherShortest 13 = .ok (.iload_n 2, 1) := by decide +kernel
theorem dX3_gatherShortest_14 : decode cX3_gatherShortest 14 = .ok (.istore 4, 2) := by decide +kernel
theorem dX3_gatherShortest_16 : decode cX3_gatherShortest 16 = .ok (.iload 4, 2) := by decide +kernel
theorem dX3_gatherShortest_18 : decode cX3_gatherShortest 18 = .ok (.aload_n 0, 1) := by decide +kernel
theorem dX3_gatherShortest_19 : decode cX3_gatherShortest 19 = .ok (.getfield 21, 3) := by decide +kernel
theorem dX3_gatherShortest_22 : decode cX3_gatherShortest 22 = .ok (.getfield 25, 3) := by decide +kernel
theorem dX3_gatherShortest_25 : decode cX3_gatherShortest 25 = .ok (.if_icmp .ge 51, 3) := by decide +kernel
theorem dX3_gatherShortest_28 : decode cX3_gatherShortest 28 = .ok (.aload_n 0, 1) := by decide +kernel
theorem dX3_gatherShortest_29 : decode cX3_gatherShortest 29 = .ok (.getfield 53, 3) := by decide +kernel
theorem dX3_gatherShortest_32 : decode cX3_gatherShortest 32 = .ok (.iload_n 1, 1) := by decide +kernel
theorem dX3_gatherShortest_33 : decode cX3_gatherShortest 33 = .ok (.if_icmp .ge 43, 3) := by decide +kernel
theorem dX3_gatherShortest_36 : decode cX3_gatherShortest 36 = .ok (.aload_n 0, 1) := by decide +kernel
theorem dX3_gatherShortest_37 : decode cX3_gatherShortest 37 = .ok (.getfield 21, 3) := by decide +kernel
theorem dX3_gatherShortest_40 : decode cX3_gatherShortest 40 = .ok (.getfield 46, 3) := by decide +kernel
theorem dX3_gatherShortest_43 : decode cX3_gatherShortest 43 = .ok (.iload 4, 2) := by decide +kernel
theorem dX3_gatherShortest_45 : decode cX3_gatherShortest 45 = .ok (.iaload, 1) := by decide +kernel
theorem dX3_gatherShortest_46 : decode cX3_gatherShortest 46 = .ok (.iload_n 3, 1) := by decide +kernel
theorem dX3_gatherShortest_47 : decode cX3_gatherShortest 47 = .ok (.if_icmp .ne 23, 3) := by decide +kernel
theorem dX3_gatherShortest_50 : decode cX3_gatherShortest 50 = .ok (.aload_n 0, 1) := by decide +kernel
theorem dX3_gatherShortest_51 : decode cX3_gatherShortest 51 = .ok (.getfield 15, 3) := by decide +kernel
theorem dX3_gatherShortest_54 : decode cX3_gatherShortest 54 = .ok (.aload_n 0, 1) := by decide +kernel
theorem dX3_gatherShortest_55 : decode cX3_gatherShortest 55 = .ok (.getfield 53, 3) := by decide +kernel
theorem dX3_gatherShortest_58 : decode cX3_gatherShortest 58 = .ok (.iload_n 3, 1) := by decide +kernel
theorem dX3_gatherShortest_59 : decode cX3_gatherShortest 59 = .ok (.iastore, 1) := by decide +kernel
theorem dX3_gatherShortest_60 : decode cX3_gatherShortest 60 = .ok (.aload_n 0, 1) := by decide +kernel
theorem dX3_gatherShortest_61 : decode cX3_gatherShortest 61 = .ok (.dup, 1) := by decide +kernel
theorem dX3_gatherShortest_62 : decode cX3_gatherShortest 62 = .ok (.getfield 53, 3) := by decide +kernel
theorem dX3_gatherShortest_65 : decode cX3_gatherShortest 65 = .ok (.iconst 1, 1) := by decide +kernel
theorem dX3_gatherShortest_66 : decode cX3_gatherShortest 66 = .ok (.iadd, 1) := by decide +kernel
theorem dX3_gatherShortest_67 : decode cX3_gatherShortest 67 = .ok (.putfield 53, 3) := by decide +kernel
theorem dX3_gatherShortest_70 : decode cX3_gatherShortest 70 = .ok (.iinc 4 1, 3) := by decide +kernel
theorem dX3_gatherShortest_73 : decode cX3_gatherShortest 73 = .ok (.goto (-57), 3) := by decide +kernel
theorem dX3_gatherShortest_76 : decode cX3_gatherShortest 76 = .ok (.iinc 3 1, 3) := by decide +kernel
theorem dX3_gatherShortest_79 : decode cX3_gatherShortest 79 = .ok (.goto (-72), 3) := by decide +kernel
theorem dX3_gatherShortest_82 : decode cX3_gatherShortest 82 = .ok (.return_, 1) := by decide +kernel
theorem dX3_gatherStretches_0 : decode cX3_gatherStretches 0 = .ok (.aload_n 0, 1) := by decide +kernel
theorem dX3_gatherStretches_1 : decode cX3_gatherStretches 1 = .ok (.iconst 0, 1) := by decide +kernel
theorem dX3_gatherStretches_2 : decode cX3_gatherStretches 2 = .ok (.putfield 64, 3) := by decide +kernel
theorem dX3_gatherStretches_5 : decode cX3_gatherStretches 5 = .ok (.iconst 0, 1) := by decide +kernel
theorem dX3_gatherStretches_6 : decode cX3_gatherStretches 6 = .ok (.istore_n 2, 1) := by decide +kernel
theorem dX3_gatherStretches_7 : decode cX3_gatherStretches 7 = .ok (.iconst 0, 1) := by decide +kernel
theorem dX3_gatherStretches_8 : decode cX3_gatherStretches 8 = .ok (.istore_n 3, 1) := by decide +kernel
theorem dX3_gatherStretches_9 : decode cX3_gatherStretches 9 = .ok (.iload_n 3, 1) := by decide +kernel
theorem dX3_gatherStretches_10 : decode cX3_gatherStretches 10 = .ok (.bipush 18, 2) := by decide +kernel
theorem dX3_gatherStretches_12 : decode cX3_gatherStretches 12 = .ok (.if_icmp .ge 93, 3) := by decide +kernel
theorem dX3_gatherStretches_15 : decode cX3_gatherStretches 15 = .ok (.iload_n 1, 1) := by decide +kernel
theorem dX3_gatherStretches_16 : decode cX3_gatherStretches 16 = .ok (.iload_n 3, 1) := by decide +kernel
theorem dX3_gatherStretches_17 : decode cX3_gatherStretches 17 = .ok (.ishr, 1) := by decide +kernel
theorem dX3_gatherStretches_18 : decode cX3_gatherStretches 18 = .ok (.iconst 1, 1) := by decide +kernel
theorem dX3_gatherStretches_19 : decode cX3_gatherStretches 19 = .ok (.iand, 1) := by decide +kernel
theorem dX3_gatherStretches_20 : decode cX3_gatherStretches 20 = .ok (.ifCond .eq 9, 3) := by decide +kernel
theorem dX3_gatherStretches_23 : decode cX3_gatherStretches 23 = .ok (.iload_n 2, 1) := by decide +kernel
theorem dX3_gatherStretches_24 : decode cX3_gatherStretches 24 = .ok (.iconst 1, 1) := by decide +kernel
theorem dX3_gatherStretches_25 : decode cX3_gatherStretches 25 = .ok (.iadd, 1) := by decide +kernel
theorem dX3_gatherStretches_26 : decode cX3_gatherStretches 26 = .ok (.goto 4, 3) := by decide +kernel
theorem dX3_gatherStretches_29 : decode cX3_gatherStretches 29 = .ok (.iconst 0, 1) := by decide +kernel
theorem dX3_gatherStretches_30 : decode cX3_gatherStretches 30 = .ok (.istore_n 2, 1) := by decide +kernel
theorem dX3_gatherStretches_31 : decode cX3_gatherStretches 31 = .ok (.iload_n 3, 1) := by decide +kernel
theorem dX3_gatherStretches_32 : decode cX3_gatherStretches 32 = .ok (.bipush 6, 2) := by decide +kernel
theorem dX3_gatherStretches_34 : decode cX3_gatherStretches 34 = .ok (.irem, 1) := by decide +kernel
theorem dX3_gatherStretches_35 : decode cX3_gatherStretches 35 = .ok (.iconst 5, 1) := by decide +kernel
theorem dX3_gatherStretches_36 : decode cX3_gatherStretches 36 = .ok (.if_icmp .ne 7, 3) := by decide +kernel
theorem dX3_gatherStretches_39 : decode cX3_gatherStretches 39 = .ok (.iconst 1, 1) := by decide +kernel
theorem dX3_gatherStretches_40 : decode cX3_gatherStretches 40 = .ok (.goto 4, 3) := by decide +kernel
theorem dX3_gatherStretches_43 : decode cX3_gatherStretches 43 = .ok (.iconst 0, 1) := by decide +kernel
theorem dX3_gatherStretches_44 : decode cX3_gatherStretches 44 = .ok (.istore 4, 2) := by decide +kernel
theorem dX3_gatherStretches_46 : decode cX3_gatherStretches 46 = .ok (.iload 4, 2) := by decide +kernel
theorem dX3_gatherStretches_48 : decode cX3_gatherStretches 48 = .ok (.ifCond .ne 13, 3) := by decide +kernel
theorem dX3_gatherStretches_51 : decode cX3_gatherStretches 51 = .ok (.iload_n 1, 1) := by decide +kernel
theorem dX3_gatherStretches_52 : decode cX3_gatherStretches 52 = .ok (.iload_n 3, 1) := by decide +kernel
theorem dX3_gatherStretches_53 : decode cX3_gatherStretches 53 = .ok (.iconst 1, 1) := by decide +kernel
theorem dX3_gatherStretches_54 : decode cX3_gatherStretches 54 = .ok (.iadd, 1) := by decide +kernel
theorem dX3_gatherStretches_55 : decode cX3_gatherStretches 55 = .ok (.ishr, 1) := by decide +kernel
theorem dX3_gatherStretches_56 : decode cX3_gatherStretches 56 = .ok (.iconst 1, 1) := by decide +kernel
theorem dX3_gatherStretches_57 : decode cX3_gatherStretches 57 = .ok (.iand, 1) := by decide +kernel
theorem dX3_gatherStretches_58 : decode cX3_gatherStretches 58 = .ok (.ifCond .ne 7, 3) := by decide +kernel
theorem dX3_gatherStretches_61 : decode cX3_gatherStretches 61 = .ok (.iconst 1, 1) := by decide +kernel
theorem dX3_gatherStretches_62 : decode cX3_gatherStretches 62 = .ok (.goto 4, 3) := by decide +kernel
theorem dX3_gatherStretches_65 : decode cX3_gatherStretches 65 = .ok (.iconst 0, 1) := by decide +kernel
theorem dX3_gatherStretches_66 : decode cX3_gatherStretches 66 = .ok (.istore 5, 2) := by decide +kernel
theorem dX3_gatherStretches_68 : decode cX3_gatherStretches 68 = .ok (.iload_n 2, 1) := by decide +kernel
theorem dX3_gatherStretches_69 : decode cX3_gatherStretches 69 = .ok (.ifCond .le 30, 3) := by decide +kernel
theorem dX3_gatherStretches_72 : decode cX3_gatherStretches 72 = .ok (.iload 5, 2) := by decide +kernel
theorem dX3_gatherStretches_74 : decode cX3_gatherStretches 74 = .ok (.ifCond .eq 25, 3) := by decide +kernel
theorem dX3_gatherStretches_77 : decode cX3_gatherStretches 77 = .ok (.aload_n 0, 1) := by decide +kernel
theorem dX3_gatherStretches_78 : decode cX3_gatherStretches 78 = .ok (.getfield 18, 3) := by decide +kernel
theorem dX3_gatherStretches_81 : decode cX3_gatherStretches 81 = .ok (.aload_n 0, 1) := by decide +kernel
theorem dX3_gatherStretches_82 : decode cX3_gatherStretches 82 = .ok (.getfield 64, 3) := by decide +kernel
theorem dX3_gatherStretches_85 : decode cX3_gatherStretches 85 = .ok (.iload_n 2, 1) := by decide +kernel
theorem dX3_gatherStretches_86 : decode cX3_gatherStretches 86 = .ok (.iastore, 1) := by decide +kernel
theorem dX3_gatherStretches_87 : decode cX3_gatherStretches 87 = .ok (.aload_n 0, 1) := by decide +kernel
theorem dX3_gatherStretches_88 : decode cX3_gatherStretches 88 = .ok (.dup, 1) := by decide +kernel
theorem dX3_gatherStretches_89 : decode cX3_gatherStretches 89 = .ok (.getfield 64, 3) := by decide +kernel
theorem dX3_gatherStretches_92 : decode cX3_gatherStretches 92 = .ok (.iconst 1, 1) := by decide +kernel
theorem dX3_gatherStretches_93 : decode cX3_gatherStretches 93 = .ok (.iadd, 1) := by decide +kernel
theorem dX3_gatherStretches_94 : decode cX3_gatherStretches 94 = .ok (.putfield 64, 3) := by decide +kernel
theorem dX3_gatherStretches_97 : decode cX3_gatherStretches 97 = .ok (.iconst 0, 1) := by decide +kernel
theorem dX3_gatherStretches_98 : decode cX3_gatherStretches 98 = .ok (.istore_n 2, 1) := by decide +kernel
theorem dX3_gatherStretches_99 : decode cX3_gatherStretches 99 = .ok (.iinc 3 1, 3) := by decide +kernel
theorem dX3_gatherStretches_102 : decode cX3_gatherStretches 102 = .ok (.goto (-93), 3) := by decide +kernel
theorem dX3_gatherStretches_105 : decode cX3_gatherStretches 105 = .ok (.return_, 1) := by decide +kernel
theorem dX3_fill_0 : decode cX3_fill 0 = .ok (.iload_n 1, 1) := by decide +kernel
theorem dX3_fill_1 : decode cX3_fill 1 = .ok (.aload_n 0, 1) := by decide +kernel
theorem dX3_fill_2 : decode cX3_fill 2 = .ok (.getfield 53, 3) := by decide +kernel
theorem dX3_fill_5 : decode cX3_fill 5 = .ok (.if_icmp .ge 9, 3) := by decide +kernel
theorem dX3_fill_8 : decode cX3_fill 8 = .ok (.iload_n 1, 1) := by decide +kernel
theorem dX3_fill_9 : decode cX3_fill 9 = .ok (.bipush 6, 2) := by decide +kernel
theorem dX3_fill_11 : decode cX3_fill 11 = .ok (.if_icmp .lt 5, 3) := by decide +kernel
theorem dX3_fill_14 : decode cX3_fill 14 = .ok (.iconst 1, 1) := by decide +kernel
theorem dX3_fill_15 : decode cX3_fill 15 = .ok (.ireturn, 1) := by decide +kernel
theorem dX3_fill_16 : decode cX3_fill 16 = .ok (.aload_n 0, 1) := by decide +kernel
theorem dX3_fill_17 : decode cX3_fill 17 = .ok (.getfield 15, 3) := by decide +kernel
theorem dX3_fill_20 : decode cX3_fill 20 = .ok (.aload_n 0, 1) := by decide +kernel
theorem dX3_fill_21 : decode cX3_fill 21 = .ok (.getfield 53, 3) := by decide +kernel
theorem dX3_fill_24 : decode cX3_fill 24 = .ok (.iconst 1, 1) := by decide +kernel
theorem dX3_fill_25 : decode cX3_fill 25 = .ok (.isub, 1) := by decide +kernel
theorem dX3_fill_26 : decode cX3_fill 26 = .ok (.iload_n 1, 1) := by decide +kernel
theorem dX3_fill_27 : decode cX3_fill 27 = .ok (.isub, 1) := by decide +kernel
theorem dX3_fill_28 : decode cX3_fill 28 = .ok (.iaload, 1) := by decide +kernel
theorem dX3_fill_29 : decode cX3_fill 29 = .ok (.istore_n 2, 1) := by decide +kernel
theorem dX3_fill_30 : decode cX3_fill 30 = .ok (.iconst 0, 1) := by decide +kernel
theorem dX3_fill_31 : decode cX3_fill 31 = .ok (.istore_n 3, 1) := by decide +kernel
theorem dX3_fill_32 : decode cX3_fill 32 = .ok (.iconst 0, 1) := by decide +kernel
theorem dX3_fill_33 : decode cX3_fill 33 = .ok (.istore 4, 2) := by decide +kernel
theorem dX3_fill_35 : decode cX3_fill 35 = .ok (.iload 4, 2) := by decide +kernel
theorem dX3_fill_37 : decode cX3_fill 37 = .ok (.aload_n 0, 1) := by decide +kernel
theorem dX3_fill_38 : decode cX3_fill 38 = .ok (.getfield 64, 3) := by decide +kernel
theorem dX3_fill_41 : decode cX3_fill 41 = .ok (.if_icmp .ge 88, 3) := by decide +kernel
theorem dX3_fill_44 : decode cX3_fill 44 = .ok (.aload_n 0, 1) := by decide +kernel
theorem dX3_fill_45 : decode cX3_fill 45 = .ok (.getfield 18, 3) := by decide +kernel
theorem dX3_fill_48 : decode cX3_fill 48 = .ok (.iload 4, 2) := by decide +kernel
theorem dX3_fill_50 : decode cX3_fill 50 = .ok (.iaload, 1) := by decide +kernel
theorem dX3_fill_51 : decode cX3_fill 51 = .ok (.istore 5, 2) := by decide +kernel
theorem dX3_fill_53 : decode cX3_fill 53 = .ok (.iload_n 3, 1) := by decide +kernel
theorem dX3_fill_54 : decode cX3_fill 54 = .ok (.iload 5, 2) := by decide +kernel
theorem dX3_fill_56 : decode cX3_fill 56 = .ok (.ishr, 1) := by decide +kernel
theorem dX3_fill_57 : decode cX3_fill 57 = .ok (.iconst 1, 1) := by decide +kernel
theorem dX3_fill_58 : decode cX3_fill 58 = .ok (.iand, 1) := by decide +kernel
theorem dX3_fill_59 : decode cX3_fill 59 = .ok (.ifCond .eq 7, 3) := by decide +kernel
theorem dX3_fill_62 : decode cX3_fill 62 = .ok (.iconst 1, 1) := by decide +kernel
theorem dX3_fill_63 : decode cX3_fill 63 = .ok (.goto 4, 3) := by decide +kernel
theorem dX3_fill_66 : decode cX3_fill 66 = .ok (.iconst 0, 1) := by decide +kernel
theorem dX3_fill_67 : decode cX3_fill 67 = .ok (.istore 6, 2) := by decide +kernel
theorem dX3_fill_69 : decode cX3_fill 69 = .ok (.iload 5, 2) := by decide +kernel
theorem dX3_fill_71 : decode cX3_fill 71 = .ok (.iload_n 2, 1) := by decide +kernel
theorem dX3_fill_72 : decode cX3_fill 72 = .ok (.if_icmp .lt 51, 3) := by decide +kernel
theorem dX3_fill_75 : decode cX3_fill 75 = .ok (.iload 6, 2) := by decide +kernel
theorem dX3_fill_77 : decode cX3_fill 77 = .ok (.ifCond .ne 46, 3) := by decide +kernel
theorem dX3_fill_80 : decode cX3_fill 80 = .ok (.iload_n 3, 1) := by decide +kernel
theorem dX3_fill_81 : decode cX3_fill 81 = .ok (.iconst 1, 1) := by decide +kernel
theorem dX3_fill_82 : decode cX3_fill 82 = .ok (.iload 5, 2) := by decide +kernel
theorem dX3_fill_84 : decode cX3_fill 84 = .ok (.ishl, 1) := by decide +kernel
theorem dX3_fill_85 : decode cX3_fill 85 = .ok (.ior, 1) := by decide +kernel
theorem dX3_fill_86 : decode cX3_fill 86 = .ok (.istore_n 3, 1) := by decide +kernel
theorem dX3_fill_87 : decode cX3_fill 87 = .ok (.aload_n 0, 1) := by decide +kernel
theorem dX3_fill_88 : decode cX3_fill 88 = .ok (.getfield 18, 3) := by decide +kernel
theorem dX3_fill_91 : decode cX3_fill 91 = .ok (.iload 4, 2) := by decide +kernel
theorem dX3_fill_93 : decode cX3_fill 93 = .ok (.iload 5, 2) := by decide +kernel
theorem dX3_fill_95 : decode cX3_fill 95 = .ok (.iload_n 2, 1) := by decide +kernel
theorem dX3_fill_96 : decode cX3_fill 96 = .ok (.isub, 1) := by decide +kernel
theorem dX3_fill_97 : decode cX3_fill 97 = .ok (.iastore, 1) := by decide +kernel
theorem dX3_fill_98 : decode cX3_fill 98 = .ok (.aload_n 0, 1) := by decide +kernel
theorem dX3_fill_99 : decode cX3_fill 99 = .ok (.iload_n 1, 1) := by decide +kernel
theorem dX3_fill_100 : decode cX3_fill 100 = .ok (.iconst 1, 1) := by decide +kernel
theorem dX3_fill_101 : decode cX3_fill 101 = .ok (.iadd, 1) := by decide +kernel
theorem dX3_fill_102 : decode cX3_fill 102 = .ok (.invokevirtual 60, 3) := by decide +kernel
theorem dX3_fill_105 : decode cX3_fill 105 = .ok (.istore 7, 2) := by decide +kernel
theorem dX3_fill_107 : decode cX3_fill 107 = .ok (.aload_n 0, 1) := by decide +kernel
theorem dX3_fill_108 : decode cX3_fill 108 = .ok (.getfield 18, 3) := by decide +kernel
theorem dX3_fill_111 : decode cX3_fill 111 = .ok (.iload 4, 2) := by decide +kernel
theorem dX3_fill_113 : decode cX3_fill 113 = .ok (.iload 5, 2) := by decide +kernel
theorem dX3_fill_115 : decode cX3_fill 115 = .ok (.iastore, 1) := by decide +kernel
theorem dX3_fill_116 : decode cX3_fill 116 = .ok (.iload 7, 2) := by decide +kernel
theorem dX3_fill_118 : decode cX3_fill 118 = .ok (.ifCond .eq 5, 3) := by decide +kernel
theorem dX3_fill_121 : decode cX3_fill 121 = .ok (.iconst 1, 1) := by decide +kernel
theorem dX3_fill_122 : decode cX3_fill 122 = .ok (.ireturn, 1) := by decide +kernel
theorem dX3_fill_123 : decode cX3_fill 123 = .ok (.iinc 4 1, 3) := by decide +kernel
theorem dX3_fill_126 : decode cX3_fill 126 = .ok (.goto (-91), 3) := by decide +kernel
theorem dX3_fill_129 : decode cX3_fill 129 = .ok (.iconst 0, 1) := by decide +kernel
theorem dX3_fill_130 : decode cX3_fill 130 = .ok (.ireturn, 1) := by decide +kernel
theorem dX4_init_0 : decode cX4_init 0 = .ok (.aload_n 0, 1) := by decide +kernel
theorem dX4_init_1 : decode cX4_init 1 = .ok (.invokespecial 3, 3) := by decide +kernel
theorem dX4_init_4 : decode cX4_init 4 = .ok (.aload_n 0, 1) := by decide +kernel
theorem dX4_init_5 : decode cX4_init 5 = .ok (.iconst 3, 1) := by decide +kernel
theorem dX4_init_6 : decode cX4_init 6 = .ok (.newarray .long, 2) := by decide +kernel
theorem dX4_init_8 : decode cX4_init 8 = .ok (.putfield 9, 3) := by decide +kernel
theorem dX4_init_11 : decode cX4_init 11 = .ok (.aload_n 0, 1) := by decide +kernel
theorem dX4_init_12 : decode cX4_init 12 = .ok (.iconst 3, 1) := by decide +kernel
theorem dX4_init_13 : decode cX4_init 13 = .ok (.newarray .int, 2) := by decide +kernel
theorem dX4_init_15 : decode cX4_init 15 = .ok (.putfield 15, 3) := by decide +kernel
theorem dX4_init_18 : decode cX4_init 18 = .ok (.aload_n 0, 1) := by decide +kernel
theorem dX4_init_19 : decode cX4_init 19 = .ok (.iconst 3, 1) := by decide +kernel
theorem dX4_init_20 : decode cX4_init 20 = .ok (.newarray .int, 2) := by decide +kernel
theorem dX4_init_22 : decode cX4_init 22 = .ok (.putfield 19, 3) := by decide +kernel
theorem dX4_init_25 : decode cX4_init 25 = .ok (.aload_n 0, 1) := by decide +kernel
theorem dX4_init_26 : decode cX4_init 26 = .ok (.iconst 3, 1) := by decide +kernel
theorem dX4_init_27 : decode cX4_init 27 = .ok (.newarray .int, 2) := by decide +kernel
theorem dX4_init_29 : decode cX4_init 29 = .ok (.putfield 22, 3) := by decide +kernel
theorem dX4_init_32 : decode cX4_init 32 = .ok (.aload_n 0, 1) := by decide +kernel
theorem dX4_init_33 : decode cX4_init 33 = .ok (.bipush 6, 2) := by decide +kernel
theorem dX4_init_35 : decode cX4_init 35 = .ok (.newarray .long, 2) := by decide +kernel
theorem dX4_init_37 : decode cX4_init 37 = .ok (.putfield 25, 3) := by decide +kernel
theorem dX4_init_40 : decode cX4_init 40 = .ok (.aload_n 0, 1) := by decide +kernel
theorem dX4_init_41 : decode cX4_init 41 = .ok (.bipush 6, 2) := by decide +kernel
theorem dX4_init_43 : decode cX4_init 43 = .ok (.newarray .int, 2) := by decide +kernel
theorem dX4_init_45 : decode cX4_init 45 = .ok (.putfield 28, 3) := by decide +kernel
theorem dX4_init_48 : decode cX4_init 48 = .ok (.aload_n 0, 1) := by decide +kernel
theorem dX4_init_49 : decode cX4_init 49 = .ok (.bipush 6, 2) := by decide +kernel
theorem dX4_init_51 : decode cX4_init 51 = .ok (.newarray .int, 2) := by decide +kernel
theorem dX4_init_53 : decode cX4_init 53 = .ok (.putfield 31, 3) := by decide +kernel
theorem dX4_init_56 : decode cX4_init 56 = .ok (.aload_n 0, 1) := by decide +kernel
theorem dX4_init_57 : decode cX4_init 57 = .ok (.bipush 6, 2) := by decide +kernel
theorem dX4_init_59 : decode cX4_init 59 = .ok (.newarray .int, 2) := by decide +kernel
theorem dX4_init_61 : decode cX4_init 61 = .ok (.putfield 34, 3) := by decide +kernel
theorem dX4_init_64 : decode cX4_init 64 = .ok (.aload_n 0, 1) := by decide +kernel
theorem dX4_init_65 : decode cX4_init 65 = .ok (.bipush 12, 2) := by decide +kernel
theorem dX4_init_67 : decode cX4_init 67 = .ok (.newarray .int, 2) := by decide +kernel
theorem dX4_init_69 : decode cX4_init 69 = .ok (.putfield 37, 3) := by decide +kernel
theorem dX4_init_72 : decode cX4_init 72 = .ok (.aload_n 0, 1) := by decide +kernel
theorem dX4_init_73 : decode cX4_init 73 = .ok (.new 40, 3) := by decide +kernel
theorem dX4_init_76 : decode cX4_init 76 = .ok (.dup, 1) := by decide +kernel
theorem dX4_init_77 : decode cX4_init 77 = .ok (.invokespecial 42, 3) := by decide +kernel
theorem dX4_init_80 : decode cX4_init 80 = .ok (.putfield 43, 3) := by decide +kernel
theorem dX4_init_83 : decode cX4_init 83 = .ok (.return_, 1) := by decide +kernel
theorem dX4_copyFrom_0 : decode cX4_copyFrom 0 = .ok (.aload_n 0, 1) := by decide +kernel
theorem dX4_copyFrom_1 : decode cX4_copyFrom 1 = .ok (.aload_n 1, 1) := by decide +kernel
theorem dX4_copyFrom_2 : decode cX4_copyFrom 2 = .ok (.getfield 47, 3) := by decide +kernel
theorem dX4_copyFrom_5 : decode cX4_copyFrom 5 = .ok (.putfield 47, 3) := by decide +kernel
theorem dX4_copyFrom_8 : decode cX4_copyFrom 8 = .ok (.aload_n 1, 1) := by decide +kernel
theorem dX4_copyFrom_9 : decode cX4_copyFrom 9 = .ok (.getfield 9, 3) := by decide +kernel
theorem dX4_copyFrom_12 : decode cX4_copyFrom 12 = .ok (.iconst 0, 1) := by decide +kernel
theorem dX4_copyFrom_13 : decode cX4_copyFrom 13 = .ok (.aload_n 0, 1) := by decide +kernel
theorem dX4_copyFrom_14 : decode cX4_copyFrom 14 = .ok (.getfield 9, 3) := by decide +kernel
theorem dX4_copyFrom_17 : decode cX4_copyFrom 17 = .ok (.iconst 0, 1) := by decide +kernel
theorem dX4_copyFrom_18 : decode cX4_copyFrom 18 = .ok (.iconst 3, 1) := by decide +kernel
theorem dX4_copyFrom_19 : decode cX4_copyFrom 19 = .ok (.invokestatic 51, 3) := by decide +kernel
theorem dX4_copyFrom_22 : decode cX4_copyFrom 22 = .ok (.aload_n 1, 1) := by decide +kernel
theorem dX4_copyFrom_23 : decode cX4_copyFrom 23 = .ok (.getfield 15, 3) := by decide +kernel
theorem dX4_copyFrom_26 : decode cX4_copyFrom 26 = .ok (.iconst 0, 1) := by decide +kernel
theorem dX4_copyFrom_27 : decode cX4_copyFrom 27 = .ok (.aload_n 0, 1) := by decide +kernel
theorem dX4_copyFrom_28 : decode cX4_copyFrom 28 = .ok (.getfield 15, 3) := by decide +kernel
theorem dX4_copyFrom_31 : decode cX4_copyFrom 31 = .ok (.iconst 0, 1) := by decide +kernel
theorem dX4_copyFrom_32 : decode cX4_copyFrom 32 = .ok (.iconst 3, 1) := by decide +kernel
theorem dX4_copyFrom_33 : decode cX4_copyFrom 33 = .ok (.invokestatic 51, 3) := by decide +kernel
theorem dX4_copyFrom_36 : decode cX4_copyFrom 36 = .ok (.aload_n 1, 1) := by decide +kernel
theorem dX4_copyFrom_37 : decode cX4_copyFrom 37 = .ok (.getfield 19, 3) := by decide +kernel
theorem dX4_copyFrom_40 : decode cX4_copyFrom 40 = .ok (.iconst 0, 1) := by decide +kernel
theorem dX4_copyFrom_41 : decode cX4_copyFrom 41 = .ok (.aload_n 0, 1) := by decide +kernel
theorem dX4_copyFrom_42 : decode cX4_copyFrom 42 = .ok (.getfield 19, 3) := by decide +kernel
theorem dX4_copyFrom_45 : decode cX4_copyFrom 45 = .ok (.iconst 0, 1) := by decide +kernel
theorem dX4_copyFrom_46 : decode cX4_copyFrom 46 = .ok (.iconst 3, 1) := by decide +kernel
theorem dX4_copyFrom_47 : decode cX4_copyFrom 47 = .ok (.invokestatic 51, 3) := by decide +kernel
theorem dX4_copyFrom_50 : decode cX4_copyFrom 50 = .ok (.aload_n 1, 1) := by decide +kernel
theorem dX4_copyFrom_51 : decode cX4_copyFrom 51 = .ok (.getfield 22, 3) := by decide +kernel
theorem dX4_copyFrom_54 : decode cX4_copyFrom 54 = .ok (.iconst 0, 1) := by decide +kernel
theorem dX4_copyFrom_55 : decode cX4_copyFrom 55 = .ok (.aload_n 0, 1) := by decide +kernel
theorem dX4_copyFrom_56 : decode cX4_copyFrom 56 = .ok (.getfield 22, 3) := by decide +kernel
theorem dX4_copyFrom_59 : decode cX4_copyFrom 59 = .ok (.iconst 0, 1) := by decide +kernel
theorem dX4_copyFrom_60 : decode cX4_copyFrom 60 = .ok (.iconst 3, 1) := by decide +kernel
theorem dX4_copyFrom_61 : decode cX4_copyFrom 61 = .ok (.invokestatic 51, 3) := by decide +kernel
theorem dX4_copyFrom_64 : decode cX4_copyFrom 64 = .ok (.aload_n 0, 1) := by decide +kernel
theorem dX4_copyFrom_65 : decode cX4_copyFrom 65 = .ok (.aload_n 1, 1) := by decide +kernel
theorem dX4_copyFrom_66 : decode cX4_copyFrom 66 = .ok (.getfield 57, 3) := by decide +kernel
theorem dX4_copyFrom_69 : decode cX4_copyFrom 69 = .ok (.putfield 57, 3) := by decide +kernel
theorem dX4_copyFrom_72 : decode cX4_copyFrom 72 = .ok (.aload_n 1, 1) := by decide +kernel
theorem dX4_copyFrom_73 : decode cX4_copyFrom 73 = .ok (.getfield 25, 3) := by decide +kernel
theorem dX4_copyFrom_76 : decode cX4_copyFrom 76 = .ok (.iconst 0, 1) := by decide +kernel
theorem dX4_copyFrom_77 : decode cX4_copyFrom 77 = .ok (.aload_n 0, 1) := by decide +kernel
theorem dX4_copyFrom_78 : decode cX4_copyFrom 78 = .ok (.getfield 25, 3) := by decide +kernel
theorem dX4_copyFrom_81 : decode cX4_copyFrom 81 = .ok (.iconst 0, 1) := by decide +kernel
theorem dX4_copyFrom_82 : decode cX4_copyFrom 82 = .ok (.bipush 6, 2) := by decide +kernel
theorem dX4_copyFrom_84 : decode cX4_copyFrom 84 = .ok (.invokestatic 51, 3) := by decide +kernel
theorem dX4_copyFrom_87 : decode cX4_copyFrom 87 = .ok (.aload_n 1, 1) := by decide +kernel
theorem dX4_copyFrom_88 : decode cX4_copyFrom 88 = .ok (.getfield 28, 3) := by decide +kernel
theorem dX4_copyFrom_91 : decode cX4_copyFrom 91 = .ok (.iconst 0, 1) := by decide +kernel
theorem dX4_copyFrom_92 : decode cX4_copyFrom 92 = .ok (.aload_n 0, 1) := by decide +kernel
theorem dX4_copyFrom_93 : decode cX4_copyFrom 93 = .ok (.getfield 28, 3) := by decide +kernel
theorem dX4_copyFrom_96 : decode cX4_copyFrom 96 = .ok (.iconst 0, 1) := by decide +kernel
theorem dX4_copyFrom_97 : decode cX4_copyFrom 97 = .ok (.bipush 6, 2) := by decide +kernel
theorem dX4_copyFrom_99 : decode cX4_copyFrom 99 = .ok (.invokestatic 51, 3) := by decide +kernel
theorem dX4_copyFrom_102 : decode cX4_copyFrom 102 = .ok (.aload_n 1, 1) := by decide +kernel
theorem dX4_copyFrom_103 : decode cX4_copyFrom 103 = .ok (.getfield 31, 3) := by decide +kernel
theorem dX4_copyFrom_106 : decode cX4_copyFrom 106 = .ok (.iconst 0, 1) := by decide +kernel
theorem dX4_copyFrom_107 : decode cX4_copyFrom 107 = .ok (.aload_n 0, 1) := by decide +kernel
theorem dX4_copyFrom_108 : decode cX4_copyFrom 108 = .ok (.getfield 31, 3) := by decide +kernel
theorem dX4_copyFrom_111 : decode cX4_copyFrom 111 = .ok (.iconst 0, 1) := by decide +kernel
theorem dX4_copyFrom_112 : decode cX4_copyFrom 112 = .ok (.bipush 6, 2) := by decide +kernel
theorem dX4_copyFrom_114 : decode cX4_copyFrom 114 = .ok (.invokestatic 51, 3) := by decide +kernel
theorem dX4_copyFrom_117 : decode cX4_copyFrom 117 = .ok (.aload_n 1, 1) := by decide +kernel
theorem dX4_copyFrom_118 : decode cX4_copyFrom 118 = .ok (.getfield 34, 3) := by decide +kernel
theorem dX4_copyFrom_121 : decode cX4_copyFrom 121 = .ok (.iconst 0, 1) := by decide +kernel
theorem dX4_copyFrom_122 : decode cX4_copyFrom 122 = .ok (.aload_n 0, 1) := by decide +kernel
theorem dX4_copyFrom_123 : decode cX4_copyFrom 123 = .ok (.getfield 34, 3) := by decide +kernel
theorem dX4_copyFrom_126 : decode cX4_copyFrom 126 = .ok (.iconst 0, 1) := by decide +kernel
theorem dX4_copyFrom_127 : decode cX4_copyFrom 127 = .ok (.bipush 6, 2) := by decide +kernel
theorem dX4_copyFrom_129 : decode cX4_copyFrom 129 = .ok (.invokestatic 51, 3) := by decide +kernel
theorem dX4_copyFrom_132 : decode cX4_copyFrom 132 = .ok (.aload_n 0, 1) := by decide +kernel
theorem dX4_copyFrom_133 : decode cX4_copyFrom 133 = .ok (.aload_n 1, 1) := by decide +kernel
theorem dX4_copyFrom_134 : decode cX4_copyFrom 134 = .ok (.getfield 60, 3) := by decide +kernel
theorem dX4_copyFrom_137 : decode cX4_copyFrom 137 = .ok (.putfield 60, 3) := by decide +kernel
theorem dX4_copyFrom_140 : decode cX4_copyFrom 140 = .ok (.aload_n 1, 1) := by decide +kernel
theorem dX4_copyFrom_141 : decode cX4_copyFrom 141 = .ok (.getfield 37, 3) := by decide +kernel
theorem dX4_copyFrom_144 : decode cX4_copyFrom 144 = .ok (.iconst 0, 1) := by decide +kernel
theorem dX4_copyFrom_145 : decode cX4_copyFrom 145 = .ok (.aload_n 0, 1) := by decide +kernel
theorem dX4_copyFrom_146 : decode cX4_copyFrom 146 = .ok (.getfield 37, 3) := by decide +kernel
theorem dX4_copyFrom_149 : decode cX4_copyFrom 149 = .ok (.iconst 0, 1) := by decide +kernel
theorem dX4_copyFrom_150 : decode cX4_copyFrom 150 = .ok (.bipush 12, 2) := by decide +kernel
theorem dX4_copyFrom_152 : decode cX4_copyFrom 152 = .ok (.invokestatic 51, 3) := by decide +kernel
theorem dX4_copyFrom_155 : decode cX4_copyFrom 155 = .ok (.aload_n 0, 1) := by decide +kernel
theorem dX4_copyFrom_156 : decode cX4_copyFrom 156 = .ok (.getfield 43, 3) := by decide +kernel
theorem dX4_copyFrom_159 : decode cX4_copyFrom 159 = .ok (.aload_n 1, 1) := by decide +kernel
theorem dX4_copyFrom_160 : decode cX4_copyFrom 160 = .ok (.getfield 43, 3) := by decide +kernel
theorem dX4_copyFrom_163 : decode cX4_copyFrom 163 = .ok (.invokevirtual 63, 3) := by decide +kernel
theorem dX4_copyFrom_166 : decode cX4_copyFrom 166 = .ok (.return_, 1) := by decide +kernel
theorem dX4_readFrom_0 : decode cX4_readFrom 0 = .ok (.aload_n 0, 1) := by decide +kernel
theorem dX4_readFrom_1 : decode cX4_readFrom 1 = .ok (.iconst 0, 1) := by decide +kernel
theorem dX4_readFrom_2 : decode cX4_readFrom 2 = .ok (.putfield 47, 3) := by decide +kernel
theorem dX4_readFrom_5 : decode cX4_readFrom 5 = .ok (.aload_n 0, 1) := by decide +kernel
theorem dX4_readFrom_6 : decode cX4_readFrom 6 = .ok (.iconst 0, 1) := by decide +kernel
theorem dX4_readFrom_7 : decode cX4_readFrom 7 = .ok (.putfield 57, 3) := by decide +kernel
theorem dX4_readFrom_10 : decode cX4_readFrom 10 = .ok (.aload_n 0, 1) := by decide +kernel
theorem dX4_readFrom_11 : decode cX4_readFrom 11 = .ok (.iconst 0, 1) := by decide +kernel
theorem dX4_readFrom_12 : decode cX4_readFrom 12 = .ok (.putfield 60, 3) := by decide +kernel
theorem dX4_readFrom_15 : decode cX4_readFrom 15 = .ok (.aload_n 0, 1) := by decide +kernel
theorem dX4_readFrom_16 : decode cX4_readFrom 16 = .ok (.getfield 43, 3) := by decide +kernel
theorem dX4_readFrom_19 : decode cX4_readFrom 19 = .ok (.invokevirtual 67, 3) := by decide +kernel
theorem dX4_readFrom_22 : decode cX4_readFrom 22 = .ok (.aload_n 1, 1) := by decide +kernel
theorem dX4_readFrom_23 : decode cX4_readFrom 23 = .ok (.invokevirtual 70, 3) := by decide +kernel
theorem dX4_readFrom_26 : decode cX4_readFrom 26 = .ok (.iconst 0, 1) := by decide +kernel
theorem dX4_readFrom_27 : decode cX4_readFrom 27 = .ok (.istore_n 2, 1) := by decide +kernel
theorem dX4_readFrom_28 : decode cX4_readFrom 28 = .ok (.iload_n 2, 1) := by decide +kernel
theorem dX4_readFrom_29 : decode cX4_readFrom 29 = .ok (.sipush 1000, 3) := by decide +kernel
theorem dX4_readFrom_32 : decode cX4_readFrom 32 = .ok (.if_icmp .ge 116, 3) := by decide +kernel
theorem dX4_readFrom_35 : decode cX4_readFrom 35 = .ok (.aload_n 1, 1) := by decide +kernel
theorem dX4_readFrom_36 : decode cX4_readFrom 36 = .ok (.invokevirtual 75, 3) := by decide +kernel
theorem dX4_readFrom_39 : decode cX4_readFrom 39 = .ok (.ifCond .eq 109, 3) := by decide +kernel
theorem dX4_readFrom_42 : decode cX4_readFrom 42 = .ok (.aload_n 1, 1) := by decide +kernel
theorem dX4_readFrom_43 : decode cX4_readFrom 43 = .ok (.invokevirtual 79, 3) := by decide +kernel
theorem dX4_readFrom_46 : decode cX4_readFrom 46 = .ok (.ifCond .ne 102, 3) := by decide +kernel
theorem dX4_readFrom_49 : decode cX4_readFrom 49 = .ok (.aload_n 1, 1) := by decide +kernel
theorem dX4_readFrom_50 : decode cX4_readFrom 50 = .ok (.ldc 82, 2) := by decide +kernel
theorem dX4_readFrom_52 : decode cX4_readFrom 52 = .ok (.invokevirtual 84, 3) := by decide +kernel
theorem dX4_readFrom_55 : decode cX4_readFrom 55 = .ok (.ifCond .eq 11, 3) := by decide +kernel
theorem dX4_readFrom_58 : decode cX4_readFrom 58 = .ok (.aload_n 0, 1) := by decide +kernel
theorem dX4_readFrom_59 : decode cX4_readFrom 59 = .ok (.aload_n 1, 1) := by decide +kernel
theorem dX4_readFrom_60 : decode cX4_readFrom 60 = .ok (.invokevirtual 88, 3) := by decide +kernel
theorem dX4_readFrom_63 : decode cX4_readFrom 63 = .ok (.goto 79, 3) := by decide +kernel
theorem dX4_readFrom_66 : decode cX4_readFrom 66 = .ok (.aload_n 1, 1) := by decide +kernel
theorem dX4_readFrom_67 : decode cX4_readFrom 67 = .ok (.ldc 92, 2) := by decide +kernel
theorem dX4_readFrom_69 : decode cX4_readFrom 69 = .ok (.invokevirtual 84, 3) := by decide +kernel
theorem dX4_readFrom_72 : decode cX4_readFrom 72 = .ok (.ifCond .eq 11, 3) := by decide +kernel
theorem dX4_readFrom_75 : decode cX4_readFrom 75 = .ok (.aload_n 0, 1) := by decide +kernel
theorem dX4_readFrom_76 : decode cX4_readFrom 76 = .ok (.aload_n 1, 1) := by decide +kernel
theorem dX4_readFrom_77 : decode cX4_readFrom 77 = .ok (.invokevirtual 94, 3) := by decide +kernel
theorem dX4_readFrom_80 : decode cX4_readFrom 80 = .ok (.goto 62, 3) := by decide +kernel
theorem dX4_readFrom_83 : decode cX4_readFrom 83 = .ok (.aload_n 1, 1) := by decide +kernel
theorem dX4_readFrom_84 : decode cX4_readFrom 84 = .ok (.ldc 97, 2) := by decide +kernel
theorem dX4_readFrom_86 : decode cX4_readFrom 86 = .ok (.invokevirtual 84, 3) := by decide +kernel
theorem dX4_readFrom_89 : decode cX4_readFrom 89 = .ok (.ifCond .eq 11, 3) := by decide +kernel
theorem dX4_readFrom_92 : decode cX4_readFrom 92 = .ok (.aload_n 0, 1) := by decide +kernel
theorem dX4_readFrom_93 : decode cX4_readFrom 93 = .ok (.aload_n 1, 1) := by decide +kernel
theorem dX4_readFrom_94 : decode cX4_readFrom 94 = .ok (.invokevirtual 99, 3) := by decide +kernel
theorem dX4_readFrom_97 : decode cX4_readFrom 97 = .ok (.goto 45, 3) := by decide +kernel
theorem dX4_readFrom_100 : decode cX4_readFrom 100 = .ok (.aload_n 1, 1) := by decide +kernel
theorem dX4_readFrom_101 : decode cX4_readFrom 101 = .ok (.ldc 102, 2) := by decide +kernel
theorem dX4_readFrom_103 : decode cX4_readFrom 103 = .ok (.invokevirtual 84, 3) := by decide +kernel
theorem dX4_readFrom_106 : decode cX4_readFrom 106 = .ok (.ifCond .eq 11, 3) := by decide +kernel
theorem dX4_readFrom_109 : decode cX4_readFrom 109 = .ok (.aload_n 0, 1) := by decide +kernel
theorem dX4_readFrom_110 : decode cX4_readFrom 110 = .ok (.aload_n 1, 1) := by decide +kernel
theorem dX4_readFrom_111 : decode cX4_readFrom 111 = .ok (.invokevirtual 103, 3) := by decide +kernel
theorem dX4_readFrom_114 : decode cX4_readFrom 114 = .ok (.goto 28, 3) := by decide +kernel
theorem dX4_readFrom_117 : decode cX4_readFrom 117 = .ok (.aload_n 1, 1) := by decide +kernel
theorem dX4_readFrom_118 : decode cX4_readFrom 118 = .ok (.ldc 106, 2) := by decide +kernel
theorem dX4_readFrom_120 : decode cX4_readFrom 120 = .ok (.invokevirtual 84, 3) := by decide +kernel
theorem dX4_readFrom_123 : decode cX4_readFrom 123 = .ok (.ifCond .eq 14, 3) := by decide +kernel
theorem dX4_readFrom_126 : decode cX4_readFrom 126 = .ok (.aload_n 0, 1) := by decide +kernel
theorem dX4_readFrom_127 : decode cX4_readFrom 127 = .ok (.getfield 43, 3) := by decide +kernel
theorem dX4_readFrom_130 : decode cX4_readFrom 130 = .ok (.aload_n 1, 1) := by decide +kernel
theorem dX4_readFrom_131 : decode cX4_readFrom 131 = .ok (.invokevirtual 108, 3) := by decide +kernel
theorem dX4_readFrom_134 : decode cX4_readFrom 134 = .ok (.goto 8, 3) := by decide +kernel
theorem dX4_readFrom_137 : decode cX4_readFrom 137 = .ok (.aload_n 1, 1) := by decide +kernel
theorem dX4_readFrom_138 : decode cX4_readFrom 138 = .ok (.iconst 1, 1) := by decide +kernel
theorem dX4_readFrom_139 : decode cX4_readFrom 139 = .ok (.invokevirtual 111, 3) := by decide +kernel
theorem dX4_readFrom_142 : decode cX4_readFrom 142 = .ok (.iinc 2 1, 3) := by decide +kernel
theorem dX4_readFrom_145 : decode cX4_readFrom 145 = .ok (.goto (-117), 3) := by decide +kernel
theorem dX4_readFrom_148 : decode cX4_readFrom 148 = .ok (.aload_n 1, 1) := by decide +kernel
theorem dX4_readFrom_149 : decode cX4_readFrom 149 = .ok (.getfield 115, 3) := by decide +kernel
theorem dX4_readFrom_152 : decode cX4_readFrom 152 = .ok (.ireturn, 1) := by decide +kernel
theorem dX4_readSkin_0 : decode cX4_readSkin 0 = .ok (.aload_n 0, 1) := by decide +kernel
theorem dX4_readSkin_1 : decode cX4_readSkin 1 = .ok (.getfield 47, 3) := by decide +kernel
theorem dX4_readSkin_4 : decode cX4_readSkin 4 = .ok (.iconst 3, 1) := by decide +kernel
theorem dX4_readSkin_5 : decode cX4_readSkin 5 = .ok (.if_icmp .lt 9, 3) := by decide +kernel
theorem dX4_readSkin_8 : decode cX4_readSkin 8 = .ok (.aload_n 1, 1) := by decide +kernel
theorem dX4_readSkin_9 : decode cX4_readSkin 9 = .ok (.iconst 5, 1) := by decide +kernel
theorem dX4_readSkin_10 : decode cX4_readSkin 10 = .ok (.invokevirtual 111, 3) := by decide +kernel
theorem dX4_readSkin_13 : decode cX4_readSkin 13 = .ok (.return_, 1) := by decide +kernel
theorem dX4_readSkin_14 : decode cX4_readSkin 14 = .ok (.aload_n 1, 1) := by decide +kernel
theorem dX4_readSkin_15 : decode cX4_readSkin 15 = .ok (.invokevirtual 118, 3) := by decide +kernel
theorem dX4_readSkin_18 : decode cX4_readSkin 18 = .ok (.aload_n 0, 1) := by decide +kernel
theorem dX4_readSkin_19 : decode cX4_readSkin 19 = .ok (.getfield 9, 3) := by decide +kernel
theorem dX4_readSkin_22 : decode cX4_readSkin 22 = .ok (.aload_n 0, 1) := by decide +kernel
theorem dX4_readSkin_23 : decode cX4_readSkin 23 = .ok (.getfield 47, 3) := by decide +kernel
theorem dX4_readSkin_26 : decode cX4_readSkin 26 = .ok (.aload_n 0, 1) := by decide +kernel
theorem dX4_readSkin_27 : decode cX4_readSkin 27 = .ok (.aload_n 1, 1) := by decide +kernel
theorem dX4_readSkin_28 : decode cX4_readSkin 28 = .ok (.invokevirtual 121, 3) := by decide +kernel
theorem dX4_readSkin_31 : decode cX4_readSkin 31 = .ok (.lastore, 1) := by decide +kernel
theorem dX4_readSkin_32 : decode cX4_readSkin 32 = .ok (.aload_n 1, 1) := by decide +kernel
theorem dX4_readSkin_33 : decode cX4_readSkin 33 = .ok (.ldc 125, 2) := by decide +kernel
theorem dX4_readSkin_35 : decode cX4_readSkin 35 = .ok (.invokevirtual 126, 3) := by decide +kernel
theorem dX4_readSkin_38 : decode cX4_readSkin 38 = .ok (.aload_n 0, 1) := by decide +kernel
theorem dX4_readSkin_39 : decode cX4_readSkin 39 = .ok (.getfield 15, 3) := by decide +kernel
theorem dX4_readSkin_42 : decode cX4_readSkin 42 = .ok (.aload_n 0, 1) := by decide +kernel
theorem dX4_readSkin_43 : decode cX4_readSkin 43 = .ok (.getfield 47, 3) := by decide +kernel
theorem dX4_readSkin_46 : decode cX4_readSkin 46 = .ok (.aload_n 1, 1) := by decide +kernel
theorem dX4_readSkin_47 : decode cX4_readSkin 47 = .ok (.iconst 1, 1) := by decide +kernel
theorem dX4_readSkin_48 : decode cX4_readSkin 48 = .ok (.bipush 6, 2) := by decide +kernel
theorem dX4_readSkin_50 : decode cX4_readSkin 50 = .ok (.invokevirtual 130, 3) := by decide +kernel
theorem dX4_readSkin_53 : decode cX4_readSkin 53 = .ok (.iastore, 1) := by decide +kernel
theorem dX4_readSkin_54 : decode cX4_readSkin 54 = .ok (.aload_n 1, 1) := by decide +kernel
theorem dX4_readSkin_55 : decode cX4_readSkin 55 = .ok (.ldc 134, 2) := by decide +kernel
theorem dX4_readSkin_57 : decode cX4_readSkin 57 = .ok (.invokevirtual 126, 3) := by decide +kernel
theorem dX4_readSkin_60 : decode cX4_readSkin 60 = .ok (.aload_n 0, 1) := by decide +kernel
theorem dX4_readSkin_61 : decode cX4_readSkin 61 = .ok (.getfield 19, 3) := by decide +kernel
theorem dX4_readSkin_64 : decode cX4_readSkin 64 = .ok (.aload_n 0, 1) := by decide +kernel
theorem dX4_readSkin_65 : decode cX4_readSkin 65 = .ok (.getfield 47, 3) := by decide +kernel
theorem dX4_readSkin_68 : decode cX4_readSkin 68 = .ok (.aload_n 1, 1) := by decide +kernel
theorem dX4_readSkin_69 : decode cX4_readSkin 69 = .ok (.iconst 1, 1) := by decide +kernel
theorem dX4_readSkin_70 : decode cX4_readSkin 70 = .ok (.bipush 30, 2) := by decide +kernel
theorem dX4_readSkin_72 : decode cX4_readSkin 72 = .ok (.invokevirtual 130, 3) := by decide +kernel
theorem dX4_readSkin_75 : decode cX4_readSkin 75 = .ok (.iastore, 1) := by decide +kernel
theorem dX4_readSkin_76 : decode cX4_readSkin 76 = .ok (.aload_n 0, 1) := by decide +kernel
theorem dX4_readSkin_77 : decode cX4_readSkin 77 = .ok (.getfield 22, 3) := by decide +kernel
theorem dX4_readSkin_80 : decode cX4_readSkin 80 = .ok (.aload_n 0, 1) := by decide +kernel
theorem dX4_readSkin_81 : decode cX4_readSkin 81 = .ok (.getfield 47, 3) := by decide +kernel
theorem dX4_readSkin_84 : decode cX4_readSkin 84 = .ok (.iconst 0, 1) := by decide +kernel
theorem dX4_readSkin_85 : decode cX4_readSkin 85 = .ok (.iastore, 1) := by decide +kernel
theorem dX4_readSkin_86 : decode cX4_readSkin 86 = .ok (.aload_n 1, 1) := by decide +kernel
theorem dX4_readSkin_87 : decode cX4_readSkin 87 = .ok (.bipush 59, 2) := by decide +kernel
theorem dX4_readSkin_89 : decode cX4_readSkin 89 = .ok (.invokevirtual 135, 3) := by decide +kernel
theorem dX4_readSkin_92 : decode cX4_readSkin 92 = .ok (.aload_n 0, 1) := by decide +kernel
theorem dX4_readSkin_93 : decode cX4_readSkin 93 = .ok (.dup, 1) := by decide +kernel
theorem dX4_readSkin_94 : decode cX4_readSkin 94 = .ok (.getfield 47, 3) := by decide +kernel
theorem dX4_readSkin_97 : decode cX4_readSkin 97 = .ok (.iconst 1, 1) := by decide +kernel
theorem dX4_readSkin_98 : decode cX4_readSkin 98 = .ok (.iadd, 1) := by decide +kernel
theorem dX4_readSkin_99 : decode cX4_readSkin 99 = .ok (.putfield 47, 3) := by decide +kernel
theorem dX4_readSkin_102 : decode cX4_readSkin 102 = .ok (.return_, 1) := by decide +kernel
theorem dX4_readHole_0 : decode cX4_readHole 0 = .ok (.aload_n 1, 1) := by decide +kernel
theorem dX4_readHole_1 : decode cX4_readHole 1 = .ok (.invokevirtual 118, 3) := by decide +kernel
theorem dX4_readHole_4 : decode cX4_readHole 4 = .ok (.aload_n 0, 1) := by decide +kernel
theorem dX4_readHole_5 : decode cX4_readHole 5 = .ok (.aload_n 1, 1) := by decide +kernel
theorem dX4_readHole_6 : decode cX4_readHole 6 = .ok (.invokevirtual 139, 3) := by decide +kernel
theorem dX4_readHole_9 : decode cX4_readHole 9 = .ok (.istore_n 2, 1) := by decide +kernel
theorem dX4_readHole_10 : decode cX4_readHole 10 = .ok (.iload_n 2, 1) := by decide +kernel
theorem dX4_readHole_11 : decode cX4_readHole 11 = .ok (.iconst (-1), 1) := by decide +kernel
theorem dX4_readHole_12 : decode cX4_readHole 12 = .ok (.if_icmp .eq 19, 3) := by decide +kernel
theorem dX4_readHole_15 : decode cX4_readHole 15 = .ok (.aload_n 1, 1) := by decide +kernel
theorem dX4_readHole_16 : decode cX4_readHole 16 = .ok (.iconst 0, 1) := by decide +kernel
theorem dX4_readHole_17 : decode cX4_readHole 17 = .ok (.aload_n 0, 1) := by decide +kernel
theorem dX4_readHole_18 : decode cX4_readHole 18 = .ok (.getfield 15, 3) := by decide +kernel
theorem dX4_readHole_21 : decode cX4_readHole 21 = .ok (.iload_n 2, 1) := by decide +kernel
theorem dX4_readHole_22 : decode cX4_readHole 22 = .ok (.iaload, 1) := by decide +kernel
theorem dX4_readHole_23 : decode cX4_readHole 23 = .ok (.iconst 1, 1) := by decide +kernel
theorem dX4_readHole_24 : decode cX4_readHole 24 = .ok (.isub, 1) := by decide +kernel
theorem dX4_readHole_25 : decode cX4_readHole 25 = .ok (.invokevirtual 143, 3) := by decide +kernel
theorem dX4_readHole_28 : decode cX4_readHole 28 = .ok (.ifCond .ne 4, 3) := by decide +kernel
theorem dX4_readHole_31 : decode cX4_readHole 31 = .ok (.return_, 1) := by decide +kernel
theorem dX4_readHole_32 : decode cX4_readHole 32 = .ok (.iconst 1, 1) := by decide +kernel
theorem dX4_readHole_33 : decode cX4_readHole 33 = .ok (.aload_n 1, 1) := by decide +kernel
theorem dX4_readHole_34 : decode cX4_readHole 34 = .ok (.getfield 147, 3) := by decide +kernel
theorem dX4_readHole_37 : decode cX4_readHole 37 = .ok (.ishl, 1) := by decide +kernel
theorem dX4_readHole_38 : decode cX4_readHole 38 = .ok (.istore_n 3, 1) := by decide +kernel
theorem dX4_readHole_39 : decode cX4_readHole 39 = .ok (.aload_n 0, 1) := by decide +kernel
theorem dX4_readHole_40 : decode cX4_readHole 40 = .ok (.getfield 22, 3) := by decide +kernel
theorem dX4_readHole_43 : decode cX4_readHole 43 = .ok (.iload_n 2, 1) := by decide +kernel
theorem dX4_readHole_44 : decode cX4_readHole 44 = .ok (.iaload, 1) := by decide +kernel
theorem dX4_readHole_45 : decode cX4_readHole 45 = .ok (.iload_n 3, 1) := by decide +kernel
theorem dX4_readHole_46 : decode cX4_readHole 46 = .ok (.iand, 1) := by decide +kernel
theorem dX4_readHole_47 : decode cX4_readHole 47 = .ok (.ifCond .eq 9, 3) := by decide +kernel
theorem dX4_readHole_50 : decode cX4_readHole 50 = .ok (.aload_n 1, 1) := by decide +kernel
theorem dX4_readHole_51 : decode cX4_readHole 51 = .ok (.iconst 3, 1) := by decide +kernel
theorem dX4_readHole_52 : decode cX4_readHole 52 = .ok (.invokevirtual 111, 3) := by decide +kernel
theorem dX4_readHole_55 : decode cX4_readHole 55 = .ok (.return_, 1) := by decide +kernel
theorem dX4_readHole_56 : decode cX4_readHole 56 = .ok (.aload_n 0, 1) := by decide +kernel
theorem dX4_readHole_57 : decode cX4_readHole 57 = .ok (.getfield 22, 3) := by decide +kernel
theorem dX4_readHole_60 : decode cX4_readHole 60 = .ok (.iload_n 2, 1) := by decide +kernel
theorem dX4_readHole_61 : decode cX4_readHole 61 = .ok (.dup2, 1) := by decide +kernel
theorem dX4_readHole_62 : decode cX4_readHole 62 = .ok (.iaload, 1) := by decide +kernel
theorem dX4_readHole_63 : decode cX4_readHole 63 = .ok (.iload_n 3, 1) := by decide +kernel
theorem dX4_readHole_64 : decode cX4_readHole 64 = .ok (.ior, 1) := by decide +kernel
theorem dX4_readHole_65 : decode cX4_readHole 65 = .ok (.iastore, 1) := by decide +kernel
theorem dX4_readHole_66 : decode cX4_readHole 66 = .ok (.aload_n 1, 1) := by decide +kernel
theorem dX4_readHole_67 : decode cX4_readHole 67 = .ok (.invokevirtual 118, 3) := by decide +kernel
theorem dX4_readHole_70 : decode cX4_readHole 70 = .ok (.aload_n 1, 1) := by decide +kernel
theorem dX4_readHole_71 : decode cX4_readHole 71 = .ok (.bipush 59, 2) := by decide +kernel
theorem dX4_readHole_73 : decode cX4_readHole 73 = .ok (.invokevirtual 135, 3) := by decide +kernel
theorem dX4_readHole_76 : decode cX4_readHole 76 = .ok (.return_, 1) := by decide +kernel
theorem dX4_readText_0 : decode cX4_readText 0 = .ok (.aload_n 0, 1) := by decide +kernel
theorem dX4_readText_1 : decode cX4_readText 1 = .ok (.getfield 57, 3) := by decide +kernel
theorem dX4_readText_4 : decode cX4_readText 4 = .ok (.bipush 6, 2) := by decide +kernel
theorem dX4_readText_6 : decode cX4_readText 6 = .ok (.if_icmp .lt 9, 3) := by decide +kernel
theorem dX4_readText_9 : decode cX4_readText 9 = .ok (.aload_n 1, 1) := by decide +kernel
theorem dX4_readText_10 : decode cX4_readText 10 = .ok (.iconst 5, 1) := by decide +kernel
theorem dX4_readText_11 : decode cX4_readText 11 = .ok (.invokevirtual 111, 3) := by decide +kernel
theorem dX4_readText_14 : decode cX4_readText 14 = .ok (.return_, 1) := by decide +kernel
theorem dX4_readText_15 : decode cX4_readText 15 = .ok (.aload_n 1, 1) := by decide +kernel
theorem dX4_readText_16 : decode cX4_readText 16 = .ok (.invokevirtual 118, 3) := by decide +kernel
theorem dX4_readText_19 : decode cX4_readText 19 = .ok (.aload_n 0, 1) := by decide +kernel
theorem dX4_readText_20 : decode cX4_readText 20 = .ok (.getfield 25, 3) := by decide +kernel
theorem dX4_readText_23 : decode cX4_readText 23 = .ok (.aload_n 0, 1) := by decide +kernel
theorem dX4_readText_24 : decode cX4_readText 24 = .ok (.getfield 57, 3) := by decide +kernel
theorem dX4_readText_27 : decode cX4_readText 27 = .ok (.aload_n 0, 1) := by decide +kernel
theorem dX4_readText_28 : decode cX4_readText 28 = .ok (.aload_n 1, 1) := by decide +kernel
theorem dX4_readText_29 : decode cX4_readText 29 = .ok (.invokevirtual 121, 3) := by decide +kernel
theorem dX4_readText_32 : decode cX4_readText 32 = .ok (.lastore, 1) := by decide +kernel
theorem dX4_readText_33 : decode cX4_readText 33 = .ok (.aload_n 0, 1) := by decide +kernel
theorem dX4_readText_34 : decode cX4_readText 34 = .ok (.getfield 28, 3) := by decide +kernel
theorem dX4_readText_37 : decode cX4_readText 37 = .ok (.aload_n 0, 1) := by decide +kernel
theorem dX4_readText_38 : decode cX4_readText 38 = .ok (.getfield 57, 3) := by decide +kernel
theorem dX4_readText_41 : decode cX4_readText 41 = .ok (.aload_n 1, 1) := by decide +kernel
theorem dX4_readText_42 : decode cX4_readText 42 = .ok (.invokestatic 150, 3) := by decide +kernel
theorem dX4_readText_45 : decode cX4_readText 45 = .ok (.iastore, 1) := by decide +kernel
theorem dX4_readText_46 : decode cX4_readText 46 = .ok (.aload_n 0, 1) := by decide +kernel
theorem dX4_readText_47 : decode cX4_readText 47 = .ok (.getfield 31, 3) := by decide +kernel
theorem dX4_readText_50 : decode cX4_readText 50 = .ok (.aload_n 0, 1) := by decide +kernel
theorem dX4_readText_51 : decode cX4_readText 51 = .ok (.getfield 57, 3) := by decide +kernel
theorem dX4_readText_54 : decode cX4_readText 54 = .ok (.aload_n 1, 1) := by decide +kernel
theorem dX4_readText_55 : decode cX4_readText 55 = .ok (.invokestatic 153, 3) := by decide +kernel
theorem dX4_readText_58 : decode cX4_readText 58 = .ok (.iastore, 1) := by decide +kernel
theorem dX4_readText_59 : decode cX4_readText 59 = .ok (.aload_n 1, 1) := by decide +kernel
theorem dX4_readText_60 : decode cX4_readText 60 = .ok (.ldc 125, 2) := by decide +kernel
theorem dX4_readText_62 : decode cX4_readText 62 = .ok (.invokevirtual 126, 3) := by decide +kernel
theorem dX4_readText_65 : decode cX4_readText 65 = .ok (.aload_n 0, 1) := by decide +kernel
theorem dX4_readText_66 : decode cX4_readText 66 = .ok (.getfield 34, 3) := by decide +kernel
theorem dX4_readText_69 : decode cX4_readText 69 = .ok (.aload_n 0, 1) := by decide +kernel
theorem dX4_readText_70 : decode cX4_readText 70 = .ok (.getfield 57, 3) := by decide +kernel
theorem dX4_readText_73 : decode cX4_readText 73 = .ok (.aload_n 1, 1) := by decide +kernel
theorem dX4_readText_74 : decode cX4_readText 74 = .ok (.iconst 1, 1) := by decide +kernel
theorem dX4_readText_75 : decode cX4_readText 75 = .ok (.bipush 6, 2) := by decide +kernel
theorem dX4_readText_77 : decode cX4_readText 77 = .ok (.invokevirtual 130, 3) := by decide +kernel
theorem dX4_readText_80 : decode cX4_readText 80 = .ok (.iastore, 1) := by decide +kernel
theorem dX4_readText_81 : decode cX4_readText 81 = .ok (.aload_n 1, 1) := by decide +kernel
theorem dX4_readText_82 : decode cX4_readText 82 = .ok (.bipush 59, 2) := by decide +kernel
theorem dX4_readText_84 : decode cX4_readText 84 = .ok (.invokevirtual 135, 3) := by decide +kernel
theorem dX4_readText_87 : decode cX4_readText 87 = .ok (.aload_n 0, 1) := by decide +kernel
theorem dX4_readText_88 : decode cX4_readText 88 = .ok (.dup, 1) := by decide +kernel
theorem dX4_readText_89 : decode cX4_readText 89 = .ok (.getfield 57, 3) := by decide +kernel
theorem dX4_readText_92 : decode cX4_readText 92 = .ok (.iconst 1, 1) := by decide +kernel
theorem dX4_readText_93 : decode cX4_readText 93 = .ok (.iadd, 1) := by decide +kernel
theorem dX4_readText_94 : decode cX4_readText 94 = .ok (.putfield 57, 3) := by decide +kernel
theorem dX4_readText_97 : decode cX4_readText 97 = .ok (.return_, 1) := by decide +kernel
theorem dX4_takeKind_0 : decode cX4_takeKind 0 = .ok (.iconst 0, 1) := by decide +kernel
theorem dX4_takeKind_1 : decode cX4_takeKind 1 = .ok (.istore_n 1, 1) := by decide +kernel
theorem dX4_takeKind_2 : decode cX4_takeKind 2 = .ok (.aload_n 0, 1) := by decide +kernel
theorem dX4_takeKind_3 : decode cX4_takeKind 3 = .ok (.ldc 156, 2) := by decide +kernel
theorem dX4_takeKind_5 : decode cX4_takeKind 5 = .ok (.invokevirtual 84, 3) := by decide +kernel
theorem dX4_takeKind_8 : decode cX4_takeKind 8 = .ok (.ifCond .eq 8, 3) := by decide +kernel
theorem dX4_takeKind_11 : decode cX4_takeKind 11 = .ok (.iconst 1, 1) := by decide +kernel
theorem dX4_takeKind_12 : decode cX4_takeKind 12 = .ok (.istore_n 1, 1) := by decide +kernel
theorem dX4_takeKind_13 : decode cX4_takeKind 13 = .ok (.goto 45, 3) := by decide +kernel
theorem dX4_takeKind_16 : decode cX4_takeKind 16 = .ok (.aload_n 0, 1) := by decide +kernel
theorem dX4_takeKind_17 : decode cX4_takeKind 17 = .ok (.ldc 158, 2) := by decide +kernel
theorem dX4_takeKind_19 : decode cX4_takeKind 19 = .ok (.invokevirtual 84, 3) := by decide +kernel
theorem dX4_takeKind_22 : decode cX4_takeKind 22 = .ok (.ifCond .eq 8, 3) := by decide +kernel
theorem dX4_takeKind_25 : decode cX4_takeKind 25 = .ok (.iconst 2, 1) := by decide +kernel
theorem dX4_takeKind_26 : decode cX4_takeKind 26 = .ok (.istore_n 1, 1) := by decide +kernel
theorem dX4_takeKind_27 : decode cX4_takeKind 27 = .ok (.goto 31, 3) := by decide +kernel
theorem dX4_takeKind_30 : decode cX4_takeKind 30 = .ok (.aload_n 0, 1) := by decide +kernel
theorem dX4_takeKind_31 : decode cX4_takeKind 31 = .ok (.ldc 160, 2) := by decide +kernel
theorem dX4_takeKind_33 : decode cX4_takeKind 33 = .ok (.invokevirtual 84, 3) := by decide +kernel
theorem dX4_takeKind_36 : decode cX4_takeKind 36 = .ok (.ifCond .eq 8, 3) := by decide +kernel
theorem dX4_takeKind_39 : decode cX4_takeKind 39 = .ok (.iconst 3, 1) := by decide +kernel
theorem dX4_takeKind_40 : decode cX4_takeKind 40 = .ok (.istore_n 1, 1) := by decide +kernel
theorem dX4_takeKind_41 : decode cX4_takeKind 41 = .ok (.goto 17, 3) := by decide +kernel
theorem dX4_takeKind_44 : decode cX4_takeKind 44 = .ok (.aload_n 0, 1) := by decide +kernel
theorem dX4_takeKind_45 : decode cX4_takeKind 45 = .ok (.ldc 162, 2) := by decide +kernel
theorem dX4_takeKind_47 : decode cX4_takeKind 47 = .ok (.invokevirtual 84, 3) := by decide +kernel
theorem dX4_takeKind_50 : decode cX4_takeKind 50 = .ok (.ifCond .ne 8, 3) := by decide +kernel
theorem dX4_takeKind_53 : decode cX4_takeKind 53 = .ok (.aload_n 0, 1) := by decide +kernel
theorem dX4_takeKind_54 : decode cX4_takeKind 54 = .ok (.iconst 1, 1) := by decide +kernel
theorem dX4_takeKind_55 : decode cX4_takeKind 55 = .ok (.invokevirtual 111, 3) := by decide +kernel
theorem dX4_takeKind_58 : decode cX4_takeKind 58 = .ok (.aload_n 0, 1) := by decide +kernel
theorem dX4_takeKind_59 : decode cX4_takeKind 59 = .ok (.invokevirtual 118, 3) := by decide +kernel
theorem dX4_takeKind_62 : decode cX4_takeKind 62 = .ok (.iload_n 1, 1) := by decide +kernel
theorem dX4_takeKind_63 : decode cX4_takeKind 63 = .ok (.ireturn, 1) := by decide +kernel
theorem dX4_takeInk_0 : decode cX4_takeInk 0 = .ok (.aload_n 0, 1) := by decide +kernel
theorem dX4_takeInk_1 : decode cX4_takeInk 1 = .ok (.ldc 164, 2) := by decide +kernel
theorem dX4_takeInk_3 : decode cX4_takeInk 3 = .ok (.invokevirtual 84, 3) := by decide +kernel
theorem dX4_takeInk_6 : decode cX4_takeInk 6 = .ok (.istore_n 1, 1) := by decide +kernel
theorem dX4_takeInk_7 : decode cX4_takeInk 7 = .ok (.iload_n 1, 1) := by decide +kernel
theorem dX4_takeInk_8 : decode cX4_takeInk 8 = .ok (.ifCond .ne 17, 3) := by decide +kernel
theorem dX4_takeInk_11 : decode cX4_takeInk 11 = .ok (.aload_n 0, 1) := by decide +kernel
theorem dX4_takeInk_12 : decode cX4_takeInk 12 = .ok (.ldc 166, 2) := by decide +kernel
theorem dX4_takeInk_14 : decode cX4_takeInk 14 = .ok (.invokevirtual 84, 3) := by decide +kernel
theorem dX4_takeInk_17 : decode cX4_takeInk 17 = .ok (.ifCond .ne 8, 3) := by decide +kernel
theorem dX4_takeInk_20 : decode cX4_takeInk 20 = .ok (.aload_n 0, 1) := by decide +kernel
theorem dX4_takeInk_21 : decode cX4_takeInk 21 = .ok (.iconst 1, 1) := by decide +kernel
theorem dX4_takeInk_22 : decode cX4_takeInk 22 = .ok (.invokevirtual 111, 3) := by decide +kernel
theorem dX4_takeInk_25 : decode cX4_takeInk 25 = .ok (.aload_n 0, 1) := by decide +kernel
theorem dX4_takeInk_26 : decode cX4_takeInk 26 = .ok (.invokevirtual 118, 3) := by decide +kernel
theorem dX4_takeInk_29 : decode cX4_takeInk 29 = .ok (.iload_n 1, 1) := by decide +kernel
theorem dX4_takeInk_30 : decode cX4_takeInk 30 = .ok (.ifCond .eq 7, 3) := by decide +kernel
theorem dX4_takeInk_33 : decode cX4_takeInk 33 = .ok (.iconst 1, 1) := by decide +kernel
theorem dX4_takeInk_34 : decode cX4_takeInk 34 = .ok (.goto 4, 3) := by decide +kernel
theorem dX4_takeInk_37 : decode cX4_takeInk 37 = .ok (.iconst 0, 1) := by decide +kernel
theorem dX4_takeInk_38 : decode cX4_takeInk 38 = .ok (.ireturn, 1) := by decide +kernel
theorem dX4_readDamp_0 : decode cX4_readDamp 0 = .ok (.aload_n 0, 1) := by decide +kernel
theorem dX4_readDamp_1 : decode cX4_readDamp 1 = .ok (.getfield 60, 3) := by decide +kernel
theorem dX4_readDamp_4 : decode cX4_readDamp 4 = .ok (.ifCond .le 9, 3) := by decide +kernel
theorem dX4_readDamp_7 : decode cX4_readDamp 7 = .ok (.aload_n 1, 1) := by decide +kernel
theorem dX4_readDamp_8 : decode cX4_readDamp 8 = .ok (.iconst 3, 1) := by decide +kernel
theorem dX4_readDamp_9 : decode cX4_readDamp 9 = .ok (.invokevirtual 111, 3) := by decide +kernel
theorem dX4_readDamp_12 : decode cX4_readDamp 12 = .ok (.return_, 1) := by decide +kernel
theorem dX4_readDamp_13 : decode cX4_readDamp 13 = .ok (.aload_n 1, 1) := by decide +kernel
theorem dX4_readDamp_14 : decode cX4_readDamp 14 = .ok (.invokevirtual 118, 3) := by decide +kernel
theorem dX4_readDamp_17 : decode cX4_readDamp 17 = .ok (.iconst 0, 1) := by decide +kernel
theorem dX4_readDamp_18 : decode cX4_readDamp 18 = .ok (.istore_n 2, 1) := by decide +kernel
theorem dX4_readDamp_19 : decode cX4_readDamp 19 = .ok (.iload_n 2, 1) := by decide +kernel
theorem dX4_readDamp_20 : decode cX4_readDamp 20 = .ok (.bipush 12, 2) := by decide +kernel
theorem dX4_readDamp_22 : decode cX4_readDamp 22 = .ok (.if_icmp .ge 47, 3) := by decide +kernel
theorem dX4_readDamp_25 : decode cX4_readDamp 25 = .ok (.aload_n 1, 1) := by decide +kernel
theorem dX4_readDamp_26 : decode cX4_readDamp 26 = .ok (.invokevirtual 75, 3) := by decide +kernel
theorem dX4_readDamp_29 : decode cX4_readDamp 29 = .ok (.ifCond .eq 40, 3) := by decide +kernel
theorem dX4_readDamp_32 : decode cX4_readDamp 32 = .ok (.iload_n 2, 1) := by decide +kernel
theorem dX4_readDamp_33 : decode cX4_readDamp 33 = .ok (.ifCond .eq 10, 3) := by decide +kernel
theorem dX4_readDamp_36 : decode cX4_readDamp 36 = .ok (.aload_n 1, 1) := by decide +kernel
theorem dX4_readDamp_37 : decode cX4_readDamp 37 = .ok (.invokevirtual 168, 3) := by decide +kernel
theorem dX4_readDamp_40 : decode cX4_readDamp 40 = .ok (.ifCond .eq 29, 3) := by decide +kernel
theorem dX4_readDamp_43 : decode cX4_readDamp 43 = .ok (.aload_n 0, 1) := by decide +kernel
theorem dX4_readDamp_44 : decode cX4_readDamp 44 = .ok (.getfield 37, 3) := by decide +kernel
theorem dX4_readDamp_47 : decode cX4_readDamp 47 = .ok (.iload_n 2, 1) := by decide +kernel
theorem dX4_readDamp_48 : decode cX4_readDamp 48 = .ok (.aload_n 1, 1) := by decide +kernel
theorem dX4_readDamp_49 : decode cX4_readDamp 49 = .ok (.iconst 0, 1) := by decide +kernel
theorem dX4_readDamp_50 : decode cX4_readDamp 50 = .ok (.bipush 9, 2) := by decide +kernel
theorem dX4_readDamp_52 : decode cX4_readDamp 52 = .ok (.invokevirtual 130, 3) := by decide +kernel
theorem dX4_readDamp_55 : decode cX4_readDamp 55 = .ok (.iastore, 1) := by decide +kernel
theorem dX4_readDamp_56 : decode cX4_readDamp 56 = .ok (.aload_n 0, 1) := by decide +kernel
theorem dX4_readDamp_57 : decode cX4_readDamp 57 = .ok (.iload_n 2, 1) := by decide +kernel
theorem dX4_readDamp_58 : decode cX4_readDamp 58 = .ok (.iconst 1, 1) := by decide +kernel
theorem dX4_readDamp_59 : decode cX4_readDamp 59 = .ok (.iadd, 1) := by decide +kernel
theorem dX4_readDamp_60 : decode cX4_readDamp 60 = .ok (.putfield 60, 3) := by decide +kernel
theorem dX4_readDamp_63 : decode cX4_readDamp 63 = .ok (.iinc 2 1, 3) := by decide +kernel
theorem dX4_readDamp_66 : decode cX4_readDamp 66 = .ok (.goto (-47), 3) := by decide +kernel
theorem dX4_readDamp_69 : decode cX4_readDamp 69 = .ok (.aload_n 1, 1) := by decide +kernel
theorem dX4_readDamp_70 : decode cX4_readDamp 70 = .ok (.invokevirtual 168, 3) := by decide +kernel
theorem dX4_readDamp_73 : decode cX4_readDamp 73 = .ok (.ifCond .eq 18, 3) := by decide +kernel
theorem dX4_readDamp_76 : decode cX4_readDamp 76 = .ok (.aload_n 1, 1) := by decide +kernel
theorem dX4_readDamp_77 : decode cX4_readDamp 77 = .ok (.iconst 0, 1) := by decide +kernel
theorem dX4_readDamp_78 : decode cX4_readDamp 78 = .ok (.bipush 9, 2) := by decide +kernel
theorem dX4_readDamp_80 : decode cX4_readDamp 80 = .ok (.invokevirtual 143, 3) := by decide +kernel
theorem dX4_readDamp_83 : decode cX4_readDamp 83 = .ok (.ifCond .eq 8, 3) := by decide +kernel
theorem dX4_readDamp_86 : decode cX4_readDamp 86 = .ok (.aload_n 1, 1) := by decide +kernel
theorem dX4_readDamp_87 : decode cX4_readDamp 87 = .ok (.iconst 5, 1) := by decide +kernel
theorem dX4_readDamp_88 : decode cX4_readDamp 88 = .ok (.invokevirtual 111, 3) := by decide +kernel
theorem dX4_readDamp_91 : decode cX4_readDamp 91 = .ok (.aload_n 1, 1) := by decide +kernel
theorem dX4_readDamp_92 : decode cX4_readDamp 92 = .ok (.bipush 59, 2) := by decide +kernel
theorem dX4_readDamp_94 : decode cX4_readDamp 94 = .ok (.invokevirtual 135, 3) := by decide +kernel
theorem dX4_readDamp_97 : decode cX4_readDamp 97 = .ok (.return_, 1) := by decide +kernel
theorem dX4_takeNewName_0 : decode cX4_takeNewName 0 = .ok (.aload_n 1, 1) := by decide +kernel
theorem dX4_takeNewName_1 : decode cX4_takeNewName 1 = .ok (.getfield 171, 3) := by decide +kernel
theorem dX4_takeNewName_4 : decode cX4_takeNewName 4 = .ok (.lstore_n 2, 1) := by decide +kernel
theorem dX4_takeNewName_5 : decode cX4_takeNewName 5 = .ok (.aload_n 1, 1) := by decide +kernel
theorem dX4_takeNewName_6 : decode cX4_takeNewName 6 = .ok (.invokevirtual 175, 3) := by decide +kernel
theorem dX4_takeNewName_9 : decode cX4_takeNewName 9 = .ok (.ifCond .ne 11, 3) := by decide +kernel
theorem dX4_takeNewName_12 : decode cX4_takeNewName 12 = .ok (.aload_n 1, 1) := by decide +kernel
theorem dX4_takeNewName_13 : decode cX4_takeNewName 13 = .ok (.iconst 1, 1) := by decide +kernel
theorem dX4_takeNewName_14 : decode cX4_takeNewName 14 = .ok (.invokevirtual 111, 3) := by decide +kernel
theorem dX4_takeNewName_17 : decode cX4_takeNewName 17 = .ok (.goto 40, 3) := by decide +kernel
theorem dX4_takeNewName_20 : decode cX4_takeNewName 20 = .ok (.lload_n 2, 1) := by decide +kernel
theorem dX4_takeNewName_21 : decode cX4_takeNewName 21 = .ok (.aload_n 0, 1) := by decide +kernel
theorem dX4_takeNewName_22 : decode cX4_takeNewName 22 = .ok (.getfield 9, 3) := by decide +kernel
theorem dX4_takeNewName_25 : decode cX4_takeNewName 25 = .ok (.aload_n 0, 1) := by decide +kernel
theorem dX4_takeNewName_26 : decode cX4_takeNewName 26 = .ok (.getfield 47, 3) := by decide +kernel
theorem dX4_takeNewName_29 : decode cX4_takeNewName 29 = .ok (.invokestatic 178, 3) := by decide +kernel
theorem dX4_takeNewName_32 : decode cX4_takeNewName 32 = .ok (.iconst (-1), 1) := by decide +kernel
theorem dX4_takeNewName_33 : decode cX4_takeNewName 33 = .ok (.if_icmp .ne 19, 3) := by decide +kernel
theorem dX4_takeNewName_36 : decode cX4_takeNewName 36 = .ok (.lload_n 2, 1) := by decide +kernel
theorem dX4_takeNewName_37 : decode cX4_takeNewName 37 = .ok (.aload_n 0, 1) := by decide +kernel
theorem dX4_takeNewName_38 : decode cX4_takeNewName 38 = .ok (.getfield 25, 3) := by decide +kernel
theorem dX4_takeNewName_41 : decode cX4_takeNewName 41 = .ok (.aload_n 0, 1) := by decide +kernel
theorem dX4_takeNewName_42 : decode cX4_takeNewName 42 = .ok (.getfield 57, 3) := by decide +kernel
theorem dX4_takeNewName_45 : decode cX4_takeNewName 45 = .ok (.invokestatic 178, 3) := by decide +kernel
theorem dX4_takeNewName_48 : decode cX4_takeNewName 48 = .ok (.iconst (-1), 1) := by decide +kernel
theorem dX4_takeNewName_49 : decode cX4_takeNewName 49 = .ok (.if_icmp .eq 8, 3) := by decide +kernel
theorem dX4_takeNewName_52 : decode cX4_takeNewName 52 = .ok (.aload_n 1, 1) := by decide +kernel
theorem dX4_takeNewName_53 : decode cX4_takeNewName 53 = .ok (.iconst 3, 1) := by decide +kernel
theorem dX4_takeNewName_54 : decode cX4_takeNewName 54 = .ok (.invokevirtual 111, 3) := by decide +kernel
theorem dX4_takeNewName_57 : decode cX4_takeNewName 57 = .ok (.aload_n 1, 1) := by decide +kernel
theorem dX4_takeNewName_58 : decode cX4_takeNewName 58 = .ok (.invokevirtual 118, 3) := by decide +kernel
theorem dX4_takeNewName_61 : decode cX4_takeNewName 61 = .ok (.lload_n 2, 1) := by decide +kernel
theorem dX4_takeNewName_62 : decode cX4_takeNewName 62 = .ok (.lreturn, 1) := by decide +kernel
theorem dX4_takeSkin_0 : decode cX4_takeSkin 0 = .ok (.aload_n 1, 1) := by decide +kernel
theorem dX4_takeSkin_1 : decode cX4_takeSkin 1 = .ok (.aload_n 0, 1) := by decide +kernel
theorem dX4_takeSkin_2 : decode cX4_takeSkin 2 = .ok (.getfield 9, 3) := by decide +kernel
theorem dX4_takeSkin_5 : decode cX4_takeSkin 5 = .ok (.aload_n 0, 1) := by decide +kernel
theorem dX4_takeSkin_6 : decode cX4_takeSkin 6 = .ok (.getfield 47, 3) := by decide +kernel
theorem dX4_takeSkin_9 : decode cX4_takeSkin 9 = .ok (.invokestatic 182, 3) := by decide +kernel
theorem dX4_takeSkin_12 : decode cX4_takeSkin 12 = .ok (.ireturn, 1) := by decide +kernel
theorem dX4_takeText_0 : decode cX4_takeText 0 = .ok (.aload_n 1, 1) := by decide +kernel
theorem dX4_takeText_1 : decode cX4_takeText 1 = .ok (.aload_n 0, 1) := by decide +kernel
theorem dX4_takeText_2 : decode cX4_takeText 2 = .ok (.getfield 25, 3) := by decide +kernel
theorem dX4_takeText_5 : decode cX4_takeText 5 = .ok (.aload_n 0, 1) := by decide +kernel
theorem dX4_takeText_6 : decode cX4_takeText 6 = .ok (.getfield 57, 3) := by decide +kernel
theorem dX4_takeText_9 : decode cX4_takeText 9 = .ok (.invokestatic 182, 3) := by decide +kernel
theorem dX4_takeText_12 : decode cX4_takeText 12 = .ok (.ireturn, 1) := by decide +kernel
theorem dX4_takeTold_0 : decode cX4_takeTold 0 = .ok (.iconst (-1), 1) := by decide +kernel
theorem dX4_takeTold_1 : decode cX4_takeTold 1 = .ok (.istore_n 3, 1) := by decide +kernel
theorem dX4_takeTold_2 : decode cX4_takeTold 2 = .ok (.aload_n 0, 1) := by decide +kernel
theorem dX4_takeTold_3 : decode cX4_takeTold 3 = .ok (.invokevirtual 175, 3) := by decide +kernel
theorem dX4_takeTold_6 : decode cX4_takeTold 6 = .ok (.ifCond .ne 11, 3) := by decide +kernel
theorem dX4_takeTold_9 : decode cX4_takeTold 9 = .ok (.aload_n 0, 1) := by decide +kernel
theorem dX4_takeTold_10 : decode cX4_takeTold 10 = .ok (.iconst 1, 1) := by decide +kernel
theorem dX4_takeTold_11 : decode cX4_takeTold 11 = .ok (.invokevirtual 111, 3) := by decide +kernel
theorem dX4_takeTold_14 : decode cX4_takeTold 14 = .ok (.goto 23, 3) := by decide +kernel
theorem dX4_takeTold_17 : decode cX4_takeTold 17 = .ok (.aload_n 0, 1) := by decide +kernel
theorem dX4_takeTold_18 : decode cX4_takeTold 18 = .ok (.getfield 171, 3) := by decide +kernel
theorem dX4_takeTold_21 : decode cX4_takeTold 21 = .ok (.aload_n 1, 1) := by decide +kernel
theorem dX4_takeTold_22 : decode cX4_takeTold 22 = .ok (.iload_n 2, 1) := by decide +kernel
theorem dX4_takeTold_23 : decode cX4_takeTold 23 = .ok (.invokestatic 178, 3) := by decide +kernel
theorem dX4_takeTold_26 : decode cX4_takeTold 26 = .ok (.istore_n 3, 1) := by decide +kernel
theorem dX4_takeTold_27 : decode cX4_takeTold 27 = .ok (.iload_n 3, 1) := by decide +kernel
theorem dX4_takeTold_28 : decode cX4_takeTold 28 = .ok (.iconst (-1), 1) := by decide +kernel
theorem dX4_takeTold_29 : decode cX4_takeTold 29 = .ok (.if_icmp .ne 8, 3) := by decide +kernel
theorem dX4_takeTold_32 : decode cX4_takeTold 32 = .ok (.aload_n 0, 1) := by decide +kernel
theorem dX4_takeTold_33 : decode cX4_takeTold 33 = .ok (.iconst 2, 1) := by decide +kernel
theorem dX4_takeTold_34 : decode cX4_takeTold 34 = .ok (.invokevirtual 111, 3) := by decide +kernel
theorem dX4_takeTold_37 : decode cX4_takeTold 37 = .ok (.aload_n 0, 1) := by decide +kernel
theorem dX4_takeTold_38 : decode cX4_takeTold 38 = .ok (.invokevirtual 118, 3) := by decide +kernel
theorem dX4_takeTold_41 : decode cX4_takeTold 41 = .ok (.aload_n 0, 1) := by decide +kernel
theorem dX4_takeTold_42 : decode cX4_takeTold 42 = .ok (.invokevirtual 75, 3) := by decide +kernel
theorem dX4_takeTold_45 : decode cX4_takeTold 45 = .ok (.ifCond .eq 7, 3) := by decide +kernel
theorem dX4_takeTold_48 : decode cX4_takeTold 48 = .ok (.iload_n 3, 1) := by decide +kernel
theorem dX4_takeTold_49 : decode cX4_takeTold 49 = .ok (.goto 4, 3) := by decide +kernel
theorem dX4_takeTold_52 : decode cX4_takeTold 52 = .ok (.iconst (-1), 1) := by decide +kernel
theorem dX4_takeTold_53 : decode cX4_takeTold 53 = .ok (.ireturn, 1) := by decide +kernel
theorem dX4_indexOf_0 : decode cX4_indexOf 0 = .ok (.iconst 0, 1) := by decide +kernel
theorem dX4_indexOf_1 : decode cX4_indexOf 1 = .ok (.istore 4, 2) := by decide +kernel
theorem dX4_indexOf_3 : decode cX4_indexOf 3 = .ok (.iload 4, 2) := by decide +kernel
theorem dX4_indexOf_5 : decode cX4_indexOf 5 = .ok (.iload_n 3, 1) := by decide +kernel
theorem dX4_indexOf_6 : decode cX4_indexOf 6 = .ok (.if_icmp .ge 28, 3) := by decide +kernel
theorem dX4_indexOf_9 : decode cX4_indexOf 9 = .ok (.iload 4, 2) := by decide +kernel
theorem dX4_indexOf_11 : decode cX4_indexOf 11 = .ok (.aload_n 2, 1) := by decide +kernel
theorem dX4_indexOf_12 : decode cX4_indexOf 12 = .ok (.arraylength, 1) := by decide +kernel
theorem dX4_indexOf_13 : decode cX4_indexOf 13 = .ok (.if_icmp .ge 21, 3) := by decide +kernel
theorem dX4_indexOf_16 : decode cX4_indexOf 16 = .ok (.aload_n 2, 1) := by decide +kernel
theorem dX4_indexOf_17 : decode cX4_indexOf 17 = .ok (.iload 4, 2) := by decide +kernel
theorem dX4_indexOf_19 : decode cX4_indexOf 19 = .ok (.laload, 1) := by decide +kernel
theorem dX4_indexOf_20 : decode cX4_indexOf 20 = .ok (.lload_n 0, 1) := by decide +kernel
theorem dX4_indexOf_21 : decode cX4_indexOf 21 = .ok (.lcmp, 1) := by decide +kernel
theorem dX4_indexOf_22 : decode cX4_indexOf 22 = .ok (.ifCond .ne 6, 3) := by decide +kernel
theorem dX4_indexOf_25 : decode cX4_indexOf 25 = .ok (.iload 4, 2) := by decide +kernel
theorem dX4_indexOf_27 : decode cX4_indexOf 27 = .ok (.ireturn, 1) := by decide +kernel
theorem dX4_indexOf_28 : decode cX4_indexOf 28 = .ok (.iinc 4 1, 3) := by decide +kernel
theorem dX4_indexOf_31 : decode cX4_indexOf 31 = .ok (.goto (-28), 3) := by decide +kernel
theorem dX4_indexOf_34 : decode cX4_indexOf 34 = .ok (.iconst (-1), 1) := by decide +kernel
theorem dX4_indexOf_35 : decode cX4_indexOf 35 = .ok (.ireturn, 1) := by decide +kernel
theorem dX4_hasSkin_0 : decode cX4_hasSkin 0 = .ok (.iload_n 1, 1) := by decide +kernel
theorem dX4_hasSkin_1 : decode cX4_hasSkin 1 = .ok (.ifCond .lt 15, 3) := by decide +kernel
theorem dX4_hasSkin_4 : decode cX4_hasSkin 4 = .ok (.iload_n 1, 1) := by decide +kernel
theorem dX4_hasSkin_5 : decode cX4_hasSkin 5 = .ok (.aload_n 0, 1) := by decide +kernel
theorem dX4_hasSkin_6 : decode cX4_hasSkin 6 = .ok (.getfield 47, 3) := by decide +kernel
theorem dX4_hasSkin_9 : decode cX4_hasSkin 9 = .ok (.if_icmp .ge 7, 3) := by decide +kernel
theorem dX4_hasSkin_12 : decode cX4_hasSkin 12 = .ok (.iconst 1, 1) := by decide +kernel
theorem dX4_hasSkin_13 : decode cX4_hasSkin 13 = .ok (.goto 4, 3) := by decide +kernel
theorem dX4_hasSkin_16 : decode cX4_hasSkin 16 = .ok (.iconst 0, 1) := by decide +kernel
theorem dX4_hasSkin_17 : decode cX4_hasSkin 17 = .ok (.ireturn, 1) := by decide +kernel
theorem dX4_hasLine_0 : decode cX4_hasLine 0 = .ok (.aload_n 0, 1) := by decide +kernel
theorem dX4_hasLine_1 : decode cX4_hasLine 1 = .ok (.iload_n 1, 1) := by decide +kernel
theorem dX4_hasLine_2 : decode cX4_hasLine 2 = .ok (.invokevirtual 186, 3) := by decide +kernel
theorem dX4_hasLine_5 : decode cX4_hasLine 5 = .ok (.ifCond .eq 21, 3) := by decide +kernel
theorem dX4_hasLine_8 : decode cX4_hasLine 8 = .ok (.iload_n 2, 1) := by decide +kernel
theorem dX4_hasLine_9 : decode cX4_hasLine 9 = .ok (.ifCond .lt 17, 3) := by decide +kernel
theorem dX4_hasLine_12 : decode cX4_hasLine 12 = .ok (.iload_n 2, 1) := by decide +kernel
theorem dX4_hasLine_13 : decode cX4_hasLine 13 = .ok (.aload_n 0, 1) := by decide +kernel
theorem dX4_hasLine_14 : decode cX4_hasLine 14 = .ok (.getfield 15, 3) := by decide +kernel
theorem dX4_hasLine_17 : decode cX4_hasLine 17 = .ok (.iload_n 1, 1) := by decide +kernel
theorem dX4_hasLine_18 : decode cX4_hasLine 18 = .ok (.iaload, 1) := by decide +kernel
theorem dX4_hasLine_19 : decode cX4_hasLine 19 = .ok (.if_icmp .ge 7, 3) := by decide +kernel
theorem dX4_hasLine_22 : decode cX4_hasLine 22 = .ok (.iconst 1, 1) := by decide +kernel
theorem dX4_hasLine_23 : decode cX4_hasLine 23 = .ok (.goto 4, 3) := by decide +kernel
theorem dX4_hasLine_26 : decode cX4_hasLine 26 = .ok (.iconst 0, 1) := by decide +kernel
theorem dX4_hasLine_27 : decode cX4_hasLine 27 = .ok (.ireturn, 1) := by decide +kernel
theorem dX4_hasText_0 : decode cX4_hasText 0 = .ok (.iload_n 1, 1) := by decide +kernel
theorem dX4_hasText_1 : decode cX4_hasText 1 = .ok (.ifCond .lt 15, 3) := by decide +kernel
theorem dX4_hasText_4 : decode cX4_hasText 4 = .ok (.iload_n 1, 1) := by decide +kernel
theorem dX4_hasText_5 : decode cX4_hasText 5 = .ok (.aload_n 0, 1) := by decide +kernel
theorem dX4_hasText_6 : decode cX4_hasText 6 = .ok (.getfield 57, 3) := by decide +kernel
theorem dX4_hasText_9 : decode cX4_hasText 9 = .ok (.if_icmp .ge 7, 3) := by decide +kernel
theorem dX4_hasText_12 : decode cX4_hasText 12 = .ok (.iconst 1, 1) := by decide +kernel
theorem dX4_hasText_13 : decode cX4_hasText 13 = .ok (.goto 4, 3) := by decide +kernel
theorem dX4_hasText_16 : decode cX4_hasText 16 = .ok (.iconst 0, 1) := by decide +kernel
theorem dX4_hasText_17 : decode cX4_hasText 17 = .ok (.ireturn, 1) := by decide +kernel
theorem dX4_dampOf_0 : decode cX4_dampOf 0 = .ok (.aload_n 0, 1) := by decide +kernel
theorem dX4_dampOf_1 : decode cX4_dampOf 1 = .ok (.getfield 60, 3) := by decide +kernel
theorem dX4_dampOf_4 : decode cX4_dampOf 4 = .ok (.ifCond .le 21, 3) := by decide +kernel
theorem dX4_dampOf_7 : decode cX4_dampOf 7 = .ok (.iload_n 1, 1) := by decide +kernel
theorem dX4_dampOf_8 : decode cX4_dampOf 8 = .ok (.ifCond .lt 17, 3) := by decide +kernel
theorem dX4_dampOf_11 : decode cX4_dampOf 11 = .ok (.aload_n 0, 1) := by decide +kernel
theorem dX4_dampOf_12 : decode cX4_dampOf 12 = .ok (.getfield 37, 3) := by decide +kernel
theorem dX4_dampOf_15 : decode cX4_dampOf 15 = .ok (.iload_n 1, 1) := by decide +kernel
theorem dX4_dampOf_16 : decode cX4_dampOf 16 = .ok (.aload_n 0, 1) := by decide +kernel
theorem dX4_dampOf_17 : decode cX4_dampOf 17 = .ok (.getfield 60, 3) := by decide +kernel
theorem dX4_dampOf_20 : decode cX4_dampOf 20 = .ok (.irem, 1) := by decide +kernel
theorem dX4_dampOf_21 : decode cX4_dampOf 21 = .ok (.iaload, 1) := by decide +kernel
theorem dX4_dampOf_22 : decode cX4_dampOf 22 = .ok (.goto 4, 3) := by decide +kernel
theorem dX4_dampOf_25 : decode cX4_dampOf 25 = .ok (.iconst 0, 1) := by decide +kernel
theorem dX4_dampOf_26 : decode cX4_dampOf 26 = .ok (.ireturn, 1) := by decide +kernel
theorem dX4_showsText_0 : decode cX4_showsText 0 = .ok (.aload_n 0, 1) := by decide +kernel
theorem dX4_showsText_1 : decode cX4_showsText 1 = .ok (.getfield 28, 3) := by decide +kernel
theorem dX4_showsText_4 : decode cX4_showsText 4 = .ok (.iload_n 1, 1) := by decide +kernel
theorem dX4_showsText_5 : decode cX4_showsText 5 = .ok (.iaload, 1) := by decide +kernel
theorem dX4_showsText_6 : decode cX4_showsText 6 = .ok (.istore 5, 2) := by decide +kernel
theorem dX4_showsText_8 : decode cX4_showsText 8 = .ok (.iload 5, 2) := by decide +kernel
theorem dX4_showsText_10 : decode cX4_showsText 10 = .ok (.iconst 1, 1) := by decide +kernel
theorem dX4_showsText_11 : decode cX4_showsText 11 = .ok (.if_icmp .ne 9, 3) := by decide +kernel
theorem dX4_showsText_14 : decode cX4_showsText 14 = .ok (.iload_n 3, 1) := by decide +kernel
theorem dX4_showsText_15 : decode cX4_showsText 15 = .ok (.iconst 1, 1) := by decide +kernel
theorem dX4_showsText_16 : decode cX4_showsText 16 = .ok (.iadd, 1) := by decide +kernel
theorem dX4_showsText_17 : decode cX4_showsText 17 = .ok (.goto 4, 3) := by decide +kernel
theorem dX4_showsText_20 : decode cX4_showsText 20 = .ok (.iload_n 3, 1) := by decide +kernel
theorem dX4_showsText_21 : decode cX4_showsText 21 = .ok (.istore 6, 2) := by decide +kernel
theorem dX4_showsText_23 : decode cX4_showsText 23 = .ok (.aload_n 0, 1) := by decide +kernel
theorem dX4_showsText_24 : decode cX4_showsText 24 = .ok (.getfield 43, 3) := by decide +kernel
theorem dX4_showsText_27 : decode cX4_showsText 27 = .ok (.iload 6, 2) := by decide +kernel
theorem dX4_showsText_29 : decode cX4_showsText 29 = .ok (.iload 5, 2) := by decide +kernel
theorem dX4_showsText_31 : decode cX4_showsText 31 = .ok (.iconst 2, 1) := by decide +kernel
theorem dX4_showsText_32 : decode cX4_showsText 32 = .ok (.if_icmp .ne 9, 3) := by decide +kernel
theorem dX4_showsText_35 : decode cX4_showsText 35 = .ok (.iload_n 2, 1) := by decide +kernel
theorem dX4_showsText_36 : decode cX4_showsText 36 = .ok (.iconst 1, 1) := by decide +kernel
theorem dX4_showsText_37 : decode cX4_showsText 37 = .ok (.isub, 1) := by decide +kernel
theorem dX4_showsText_38 : decode cX4_showsText 38 = .ok (.goto 4, 3) := by decide +kernel
theorem dX4_showsText_41 : decode cX4_showsText 41 = .ok (.iload_n 2, 1) := by decide +kernel
theorem dX4_showsText_42 : decode cX4_showsText 42 = .ok (.aload_n 0, 1) := by decide +kernel
theorem dX4_showsText_43 : decode cX4_showsText 43 = .ok (.getfield 31, 3) := by decide +kernel
theorem dX4_showsText_46 : decode cX4_showsText 46 = .ok (.iload_n 1, 1) := by decide +kernel
theorem dX4_showsText_47 : decode cX4_showsText 47 = .ok (.iaload, 1) := by decide +kernel
theorem dX4_showsText_48 : decode cX4_showsText 48 = .ok (.iload 4, 2) := by decide +kernel
theorem dX4_showsText_50 : decode cX4_showsText 50 = .ok (.invokevirtual 190, 3) := by decide +kernel
theorem dX4_showsText_53 : decode cX4_showsText 53 = .ok (.ireturn, 1) := by decide +kernel
theorem dX4_howManyShow_0 : decode cX4_howManyShow 0 = .ok (.iconst 0, 1) := by decide +kernel
theorem dX4_howManyShow_1 : decode cX4_howManyShow 1 = .ok (.istore 5, 2) := by decide +kernel
theorem dX4_howManyShow_3 : decode cX4_howManyShow 3 = .ok (.iconst 0, 1) := by decide +kernel
theorem dX4_howManyShow_4 : decode cX4_howManyShow 4 = .ok (.istore 6, 2) := by decide +kernel
theorem dX4_howManyShow_6 : decode cX4_howManyShow 6 = .ok (.iload 6, 2) := by decide +kernel
theorem dX4_howManyShow_8 : decode cX4_howManyShow 8 = .ok (.aload_n 0, 1) := by decide +kernel
theorem dX4_howManyShow_9 : decode cX4_howManyShow 9 = .ok (.getfield 57, 3) := by decide +kernel
theorem dX4_howManyShow_12 : decode cX4_howManyShow 12 = .ok (.if_icmp .ge 34, 3) := by decide +kernel
theorem dX4_howManyShow_15 : decode cX4_howManyShow 15 = .ok (.iload_n 1, 1) := by decide +kernel
theorem dX4_howManyShow_16 : decode cX4_howManyShow 16 = .ok (.iload 6, 2) := by decide +kernel
theorem dX4_howManyShow_18 : decode cX4_howManyShow 18 = .ok (.ishr, 1) := by decide +kernel
theorem dX4_howManyShow_19 : decode cX4_howManyShow 19 = .ok (.iconst 1, 1) := by decide +kernel
theorem dX4_howManyShow_20 : decode cX4_howManyShow 20 = .ok (.iand, 1) := by decide +kernel
theorem dX4_howManyShow_21 : decode cX4_howManyShow 21 = .ok (.ifCond .eq 19, 3) := by decide +kernel
theorem dX4_howManyShow_24 : decode cX4_howManyShow 24 = .ok (.aload_n 0, 1) := by decide +kernel
theorem dX4_howManyShow_25 : decode cX4_howManyShow 25 = .ok (.iload 6, 2) := by decide +kernel
theorem dX4_howManyShow_27 : decode cX4_howManyShow 27 = .ok (.iload_n 2, 1) := by decide +kernel
theorem dX4_howManyShow_28 : decode cX4_howManyShow 28 = .ok (.iload_n 3, 1) := by decide +kernel
theorem dX4_howManyShow_29 : decode cX4_howManyShow 29 = .ok (.iload 4, 2) := by decide +kernel
theorem dX4_howManyShow_31 : decode cX4_howManyShow 31 = .ok (.invokevirtual 194, 3) := by decide +kernel
theorem dX4_howManyShow_34 : decode cX4_howManyShow 34 = .ok (.ifCond .eq 6, 3) := by decide +kernel
theorem dX4_howManyShow_37 : decode cX4_howManyShow 37 = .ok (.iinc 5 1, 3) := by decide +kernel
theorem dX4_howManyShow_40 : decode cX4_howManyShow 40 = .ok (.iinc 6 1, 3) := by decide +kernel
theorem dX4_howManyShow_43 : decode cX4_howManyShow 43 = .ok (.goto (-37), 3) := by decide +kernel
theorem dX4_howManyShow_46 : decode cX4_howManyShow 46 = .ok (.iload 5, 2) := by decide +kernel
theorem dX4_howManyShow_48 : decode cX4_howManyShow 48 = .ok (.ireturn, 1) := by decide +kernel
theorem dX5_init_0 : decode cX5_init 0 = .ok (.aload_n 0, 1) := by decide +kernel
theorem dX5_init_1 : decode cX5_init 1 = .ok (.invokespecial 1, 3) := by decide +kernel
theorem dX5_init_4 : decode cX5_init 4 = .ok (.aload_n 0, 1) := by decide +kernel
theorem dX5_init_5 : decode cX5_init 5 = .ok (.bipush 8, 2) := by decide +kernel
theorem dX5_init_7 : decode cX5_init 7 = .ok (.newarray .int, 2) := by decide +kernel
theorem dX5_init_9 : decode cX5_init 9 = .ok (.putfield 9, 3) := by decide +kernel
theorem dX5_init_12 : decode cX5_init 12 = .ok (.aload_n 0, 1) := by decide +kernel
theorem dX5_init_13 : decode cX5_init 13 = .ok (.bipush 8, 2) := by decide +kernel
theorem dX5_init_15 : decode cX5_init 15 = .ok (.newarray .int, 2) := by decide +kernel
theorem dX5_init_17 : decode cX5_init 17 = .ok (.putfield 13, 3) := by decide +kernel
theorem dX5_init_20 : decode cX5_init 20 = .ok (.aload_n 0, 1) := by decide +kernel
theorem dX5_init_21 : decode cX5_init 21 = .ok (.bipush 8, 2) := by decide +kernel
theorem dX5_init_23 : decode cX5_init 23 = .ok (.newarray .int, 2) := by decide +kernel
theorem dX5_init_25 : decode cX5_init 25 = .ok (.putfield 16, 3) := by decide +kernel
theorem dX5_init_28 : decode cX5_init 28 = .ok (.aload_n 0, 1) := by decide +kernel
theorem dX5_init_29 : decode cX5_init 29 = .ok (.bipush 8, 2) := by decide +kernel
theorem dX5_init_31 : decode cX5_init 31 = .ok (.newarray .int, 2) := by decide +kernel
theorem dX5_init_33 : decode cX5_init 33 = .ok (.putfield 19, 3) := by decide +kernel
theorem dX5_init_36 : decode cX5_init 36 = .ok (.return_, 1) := by decide +kernel
theorem dX5_clear_0 : decode cX5_clear 0 = .ok (.aload_n 0, 1) := by decide +kernel
theorem dX5_clear_1 : decode cX5_clear 1 = .ok (.iconst 0, 1) := by decide +kernel
theorem dX5_clear_2 : decode cX5_clear 2 = .ok (.putfield 22, 3) := by decide +kernel
theorem dX5_clear_5 : decode cX5_clear 5 = .ok (.return_, 1) := by decide +kernel
theorem dX5_copyFrom_0 : decode cX5_copyFrom 0 = .ok (.aload_n 0, 1) := by decide +kernel
theorem dX5_copyFrom_1 : decode cX5_copyFrom 1 = .ok (.aload_n 1, 1) := by decide +kernel
theorem dX5_copyFrom_2 : decode cX5_copyFrom 2 = .ok (.getfield 22, 3) := by decide +kernel
theorem dX5_copyFrom_5 : decode cX5_copyFrom 5 = .ok (.putfield 22, 3) := by decide +kernel
theorem dX5_copyFrom_8 : decode cX5_copyFrom 8 = .ok (.aload_n 1, 1) := by decide +kernel
theorem dX5_copyFrom_9 : decode cX5_copyFrom 9 = .ok (.getfield 9, 3) := by decide +kernel
theorem dX5_copyFrom_12 : decode cX5_copyFrom 12 = .ok (.iconst 0, 1) := by decide +kernel
theorem dX5_copyFrom_13 : decode cX5_copyFrom 13 = .ok (.aload_n 0, 1) := by decide +kernel
theorem dX5_copyFrom_14 : decode cX5_copyFrom 14 = .ok (.getfield 9, 3) := by decide +kernel
theorem dX5_copyFrom_17 : decode cX5_copyFrom 17 = .ok (.iconst 0, 1) := by decide +kernel
theorem dX5_copyFrom_18 : decode cX5_copyFrom 18 = .ok (.bipush 8, 2) := by decide +kernel
theorem dX5_copyFrom_20 : decode cX5_copyFrom 20 = .ok (.invokestatic 26, 3) := by decide +kernel
theorem dX5_copyFrom_23 : decode cX5_copyFrom 23 = .ok (.aload_n 1, 1) := by decide +kernel
theorem dX5_copyFrom_24 : decode cX5_copyFrom 24 = .ok (.getfield 13, 3) := by decide +kernel
theorem dX5_copyFrom_27 : decode cX5_copyFrom 27 = .ok (.iconst 0, 1) := by decide +kernel
theorem dX5_copyFrom_28 : decode cX5_copyFrom 28 = .ok (.aload_n 0, 1) := by decide +kernel
theorem dX5_copyFrom_29 : decode cX5_copyFrom 29 = .ok (.getfield 13, 3) := by decide +kernel
theorem dX5_copyFrom_32 : decode cX5_copyFrom 32 = .ok (.iconst 0, 1) := by decide +kernel
theorem dX5_copyFrom_33 : decode cX5_copyFrom 33 = .ok (.bipush 8, 2) := by decide +kernel
theorem dX5_copyFrom_35 : decode cX5_copyFrom 35 = .ok (.invokestatic 26, 3) := by decide +kernel
theorem dX5_copyFrom_38 : decode cX5_copyFrom 38 = .ok (.aload_n 1, 1) := by decide +kernel
theorem dX5_copyFrom_39 : decode cX5_copyFrom 39 = .ok (.getfield 16, 3) := by decide +kernel
theorem dX5_copyFrom_42 : decode cX5_copyFrom 42 = .ok (.iconst 0, 1) := by decide +kernel
theorem dX5_copyFrom_43 : decode cX5_copyFrom 43 = .ok (.aload_n 0, 1) := by decide +kernel
theorem dX5_copyFrom_44 : decode cX5_copyFrom 44 = .ok (.getfield 16, 3) := by decide +kernel
theorem dX5_copyFrom_47 : decode cX5_copyFrom 47 = .ok (.iconst 0, 1) := by decide +kernel
theorem dX5_copyFrom_48 : decode cX5_copyFrom 48 = .ok (.bipush 8, 2) := by decide +kernel
theorem dX5_copyFrom_50 : decode cX5_copyFrom 50 = .ok (.invokestatic 26, 3) := by decide +kernel
theorem dX5_copyFrom_53 : decode cX5_copyFrom 53 = .ok (.aload_n 1, 1) := by decide +kernel
theorem dX5_copyFrom_54 : decode cX5_copyFrom 54 = .ok (.getfield 19, 3) := by decide +kernel
theorem dX5_copyFrom_57 : decode cX5_copyFrom 57 = .ok (.iconst 0, 1) := by decide +kernel
theorem dX5_copyFrom_58 : decode cX5_copyFrom 58 = .ok (.aload_n 0, 1) := by decide +kernel
theorem dX5_copyFrom_59 : decode cX5_copyFrom 59 = .ok (.getfield 19, 3) := by decide +kernel
theorem dX5_copyFrom_62 : decode cX5_copyFrom 62 = .ok (.iconst 0, 1) := by decide +kernel
theorem dX5_copyFrom_63 : decode cX5_copyFrom 63 = .ok (.bipush 8, 2) := by decide +kernel
theorem dX5_copyFrom_65 : decode cX5_copyFrom 65 = .ok (.invokestatic 26, 3) := by decide +kernel
theorem dX5_copyFrom_68 : decode cX5_copyFrom 68 = .ok (.return_, 1) := by decide +kernel
theorem dX5_add_0 : decode cX5_add 0 = .ok (.aload_n 0, 1) := by decide +kernel
theorem dX5_add_1 : decode cX5_add 1 = .ok (.getfield 22, 3) := by decide +kernel
theorem dX5_add_4 : decode cX5_add 4 = .ok (.bipush 8, 2) := by decide +kernel
theorem dX5_add_6 : decode cX5_add 6 = .ok (.if_icmp .lt 5, 3) := by decide +kernel
theorem dX5_add_9 : decode cX5_add 9 = .ok (.iconst 0, 1) := by decide +kernel
theorem dX5_add_10 : decode cX5_add 10 = .ok (.ireturn, 1) := by decide +kernel
theorem dX5_add_11 : decode cX5_add 11 = .ok (.aload_n 0, 1) := by decide +kernel
theorem dX5_add_12 : decode cX5_add 12 = .ok (.getfield 9, 3) := by decide +kernel
theorem dX5_add_15 : decode cX5_add 15 = .ok (.aload_n 0, 1) := by decide +kernel
theorem dX5_add_16 : decode cX5_add 16 = .ok (.getfield 22, 3) := by decide +kernel
theorem dX5_add_19 : decode cX5_add 19 = .ok (.iload_n 1, 1) := by decide +kernel
theorem dX5_add_20 : decode cX5_add 20 = .ok (.iastore, 1) := by decide +kernel
theorem dX5_add_21 : decode cX5_add 21 = .ok (.aload_n 0, 1) := by decide +kernel
theorem dX5_add_22 : decode cX5_add 22 = .ok (.getfield 13, 3) := by decide +kernel
theorem dX5_add_25 : decode cX5_add 25 = .ok (.aload_n 0, 1) := by decide +kernel
theorem dX5_add_26 : decode cX5_add 26 = .ok (.getfield 22, 3) := by decide +kernel
theorem dX5_add_29 : decode cX5_add 29 = .ok (.iload_n 2, 1) := by decide +kernel
theorem dX5_add_30 : decode cX5_add 30 = .ok (.iastore, 1) := by decide +kernel
theorem dX5_add_31 : decode cX5_add 31 = .ok (.aload_n 0, 1) := by decide +kernel
theorem dX5_add_32 : decode cX5_add 32 = .ok (.getfield 16, 3) := by decide +kernel
theorem dX5_add_35 : decode cX5_add 35 = .ok (.aload_n 0, 1) := by decide +kernel
theorem dX5_add_36 : decode cX5_add 36 = .ok (.getfield 22, 3) := by decide +kernel
theorem dX5_add_39 : decode cX5_add 39 = .ok (.iload_n 3, 1) := by decide +kernel
theorem dX5_add_40 : decode cX5_add 40 = .ok (.iastore, 1) := by decide +kernel
theorem dX5_add_41 : decode cX5_add 41 = .ok (.aload_n 0, 1) := by decide +kernel
theorem dX5_add_42 : decode cX5_add 42 = .ok (.getfield 19, 3) := by decide +kernel
theorem dX5_add_45 : decode cX5_add 45 = .ok (.aload_n 0, 1) := by decide +kernel
theorem dX5_add_46 : decode cX5_add 46 = .ok (.getfield 22, 3) := by decide +kernel
theorem dX5_add_49 : decode cX5_add 49 = .ok (.iload 4, 2) := by decide +kernel
theorem dX5_add_51 : decode cX5_add 51 = .ok (.ifCond .eq 7, 3) := by decide +kernel
theorem dX5_add_54 : decode cX5_add 54 = .ok (.iconst 1, 1) := by decide +kernel
theorem dX5_add_55 : decode cX5_add 55 = .ok (.goto 4, 3) := by decide +kernel
theorem dX5_add_58 : decode cX5_add 58 = .ok (.iconst 0, 1) := by decide +kernel
theorem dX5_add_59 : decode cX5_add 59 = .ok (.iastore, 1) := by decide +kernel
theorem dX5_add_60 : decode cX5_add 60 = .ok (.aload_n 0, 1) := by decide +kernel
theorem dX5_add_61 : decode cX5_add 61 = .ok (.dup, 1) := by decide +kernel
theorem dX5_add_62 : decode cX5_add 62 = .ok (.getfield 22, 3) := by decide +kernel
theorem dX5_add_65 : decode cX5_add 65 = .ok (.iconst 1, 1) := by decide +kernel
theorem dX5_add_66 : decode cX5_add 66 = .ok (.iadd, 1) := by decide +kernel
theorem dX5_add_67 : decode cX5_add 67 = .ok (.putfield 22, 3) := by decide +kernel
theorem dX5_add_70 : decode cX5_add 70 = .ok (.iconst 1, 1) := by decide +kernel
theorem dX5_add_71 : decode cX5_add 71 = .ok (.ireturn, 1) := by decide +kernel
theorem dX5_agrees_0 : decode cX5_agrees 0 = .ok (.iconst 0, 1) := by decide +kernel
theorem dX5_agrees_1 : decode cX5_agrees 1 = .ok (.istore 4, 2) := by decide +kernel
theorem dX5_agrees_3 : decode cX5_agrees 3 = .ok (.iload 4, 2) := by decide +kernel
theorem dX5_agrees_5 : decode cX5_agrees 5 = .ok (.aload_n 0, 1) := by decide +kernel
theorem dX5_agrees_6 : decode cX5_agrees 6 = .ok (.getfield 22, 3) := by decide +kernel
theorem dX5_agrees_9 : decode cX5_agrees 9 = .ok (.if_icmp .ge 65, 3) := by decide +kernel
theorem dX5_agrees_12 : decode cX5_agrees 12 = .ok (.aload_n 2, 1) := by decide +kernel
theorem dX5_agrees_13 : decode cX5_agrees 13 = .ok (.iload_n 1, 1) := by decide +kernel
theorem dX5_agrees_14 : decode cX5_agrees 14 = .ok (.aload_n 0, 1) := by decide +kernel
theorem dX5_agrees_15 : decode cX5_agrees 15 = .ok (.getfield 13, 3) := by decide +kernel
theorem dX5_agrees_18 : decode cX5_agrees 18 = .ok (.iload 4, 2) := by decide +kernel
theorem dX5_agrees_20 : decode cX5_agrees 20 = .ok (.iaload, 1) := by decide +kernel
theorem dX5_agrees_21 : decode cX5_agrees 21 = .ok (.aload_n 0, 1) := by decide +kernel
theorem dX5_agrees_22 : decode cX5_agrees 22 = .ok (.getfield 16, 3) := by decide +kernel
theorem dX5_agrees_25 : decode cX5_agrees 25 = .ok (.iload 4, 2) := by decide +kernel
theorem dX5_agrees_27 : decode cX5_agrees 27 = .ok (.iaload, 1) := by decide +kernel
theorem dX5_agrees_28 : decode cX5_agrees 28 = .ok (.aload_n 3, 1) := by decide +kernel
theorem dX5_agrees_29 : decode cX5_agrees 29 = .ok (.getfield 32, 3) := by decide +kernel
theorem dX5_agrees_32 : decode cX5_agrees 32 = .ok (.aload_n 0, 1) := by decide +kernel
theorem dX5_agrees_33 : decode cX5_agrees 33 = .ok (.getfield 9, 3) := by decide +kernel
theorem dX5_agrees_36 : decode cX5_agrees 36 = .ok (.iload 4, 2) := by decide +kernel
theorem dX5_agrees_38 : decode cX5_agrees 38 = .ok (.iaload, 1) := by decide +kernel
theorem dX5_agrees_39 : decode cX5_agrees 39 = .ok (.iaload, 1) := by decide +kernel
theorem dX5_agrees_40 : decode cX5_agrees 40 = .ok (.invokevirtual 37, 3) := by decide +kernel
theorem dX5_agrees_43 : decode cX5_agrees 43 = .ok (.istore 5, 2) := by decide +kernel
theorem dX5_agrees_45 : decode cX5_agrees 45 = .ok (.iload 5, 2) := by decide +kernel
theorem dX5_agrees_47 : decode cX5_agrees 47 = .ok (.aload_n 0, 1) := by decide +kernel
theorem dX5_agrees_48 : decode cX5_agrees 48 = .ok (.getfield 19, 3) := by decide +kernel
theorem dX5_agrees_51 : decode cX5_agrees 51 = .ok (.iload 4, 2) := by decide +kernel
theorem dX5_agrees_53 : decode cX5_agrees 53 = .ok (.iaload, 1) := by decide +kernel
theorem dX5_agrees_54 : decode cX5_agrees 54 = .ok (.iconst 1, 1) := by decide +kernel
theorem dX5_agrees_55 : decode cX5_agrees 55 = .ok (.if_icmp .ne 7, 3) := by decide +kernel
theorem dX5_agrees_58 : decode cX5_agrees 58 = .ok (.iconst 1, 1) := by decide +kernel
theorem dX5_agrees_59 : decode cX5_agrees 59 = .ok (.goto 4, 3) := by decide +kernel
theorem dX5_agrees_62 : decode cX5_agrees 62 = .ok (.iconst 0, 1) := by decide +kernel
theorem dX5_agrees_63 : decode cX5_agrees 63 = .ok (.if_icmp .eq 5, 3) := by decide +kernel
theorem dX5_agrees_66 : decode cX5_agrees 66 = .ok (.iconst 0, 1) := by decide +kernel
theorem dX5_agrees_67 : decode cX5_agrees 67 = .ok (.ireturn, 1) := by decide +kernel
theorem dX5_agrees_68 : decode cX5_agrees 68 = .ok (.iinc 4 1, 3) := by decide +kernel
theorem dX5_agrees_71 : decode cX5_agrees 71 = .ok (.goto (-68), 3) := by decide +kernel
theorem dX5_agrees_74 : decode cX5_agrees 74 = .ok (.iconst 1, 1) := by decide +kernel
theorem dX5_agrees_75 : decode cX5_agrees 75 = .ok (.ireturn, 1) := by decide +kernel
theorem dX6_init_0 : decode cX6_init 0 = .ok (.aload_n 0, 1) := by decide +kernel
theorem dX6_init_1 : decode cX6_init 1 = .ok (.invokespecial 3, 3) := by decide +kernel
theorem dX6_init_4 : decode cX6_init 4 = .ok (.aload_n 0, 1) := by decide +kernel
theorem dX6_init_5 : decode cX6_init 5 = .ok (.iconst 3, 1) := by decide +kernel
theorem dX6_init_6 : decode cX6_init 6 = .ok (.newarray .int, 2) := by decide +kernel
theorem dX6_init_8 : decode cX6_init 8 = .ok (.putfield 9, 3) := by decide +kernel
theorem dX6_init_11 : decode cX6_init 11 = .ok (.aload_n 0, 1) := by decide +kernel
theorem dX6_init_12 : decode cX6_init 12 = .ok (.iconst 3, 1) := by decide +kernel
theorem dX6_init_13 : decode cX6_init 13 = .ok (.newarray .int, 2) := by decide +kernel
theorem dX6_init_15 : decode cX6_init 15 = .ok (.putfield 15, 3) := by decide +kernel
theorem dX6_init_18 : decode cX6_init 18 = .ok (.aload_n 0, 1) := by decide +kernel
theorem dX6_init_19 : decode cX6_init 19 = .ok (.bipush 18, 2) := by decide +kernel
theorem dX6_init_21 : decode cX6_init 21 = .ok (.newarray .int, 2) := by decide +kernel
theorem dX6_init_23 : decode cX6_init 23 = .ok (.putfield 18, 3) := by decide +kernel
theorem dX6_init_26 : decode cX6_init 26 = .ok (.aload_n 0, 1) := by decide +kernel
theorem dX6_init_27 : decode cX6_init 27 = .ok (.bipush 18, 2) := by decide +kernel
theorem dX6_init_29 : decode cX6_init 29 = .ok (.newarray .int, 2) := by decide +kernel
theorem dX6_init_31 : decode cX6_init 31 = .ok (.putfield 21, 3) := by decide +kernel
theorem dX6_init_34 : decode cX6_init 34 = .ok (.aload_n 0, 1) := by decide +kernel
theorem dX6_init_35 : decode cX6_init 35 = .ok (.aload_n 1, 1) := by decide +kernel
theorem dX6_init_36 : decode cX6_init 36 = .ok (.putfield 24, 3) := by decide +kernel
theorem dX6_init_39 : decode cX6_init 39 = .ok (.return_, 1) := by decide +kernel
theorem dX6_begin_0 : decode cX6_begin 0 = .ok (.aload_n 0, 1) := by decide +kernel
theorem dX6_begin_1 : decode cX6_begin 1 = .ok (.iconst 0, 1) := by decide +kernel
theorem dX6_begin_2 : decode cX6_begin 2 = .ok (.putfield 28, 3) := by decide +kernel
theorem dX6_begin_5 : decode cX6_begin 5 = .ok (.iconst 0, 1) := by decide +kernel
theorem dX6_begin_6 : decode cX6_begin 6 = .ok (.istore_n 1, 1) := by decide +kernel
theorem dX6_begin_7 : decode cX6_begin 7 = .ok (.iload_n 1, 1) := by decide +kernel
theorem dX6_begin_8 : decode cX6_begin 8 = .ok (.iconst 3, 1) := by decide +kernel
theorem dX6_begin_9 : decode cX6_begin 9 = .ok (.if_icmp .ge 44, 3) := by decide +kernel
theorem dX6_begin_12 : decode cX6_begin 12 = .ok (.aload_n 0, 1) := by decide +kernel
theorem dX6_begin_13 : decode cX6_begin 13 = .ok (.iload_n 1, 1) := by decide +kernel
theorem dX6_begin_14 : decode cX6_begin 14 = .ok (.invokevirtual 32, 3) := by decide +kernel
theorem dX6_begin_17 : decode cX6_begin 17 = .ok (.aload_n 0, 1) := by decide +kernel
theorem dX6_begin_18 : decode cX6_begin 18 = .ok (.getfield 9, 3) := by decide +kernel
theorem dX6_begin_21 : decode cX6_begin 21 = .ok (.iload_n 1, 1) := by decide +kernel
theorem dX6_begin_22 : decode cX6_begin 22 = .ok (.iload_n 1, 1) := by decide +kernel
theorem dX6_begin_23 : decode cX6_begin 23 = .ok (.aload_n 0, 1) := by decide +kernel
theorem dX6_begin_24 : decode cX6_begin 24 = .ok (.getfield 24, 3) := by decide +kernel
theorem dX6_begin_27 : decode cX6_begin 27 = .ok (.getfield 36, 3) := by decide +kernel
theorem dX6_begin_30 : decode cX6_begin 30 = .ok (.if_icmp .ge 15, 3) := by decide +kernel
theorem dX6_begin_33 : decode cX6_begin 33 = .ok (.aload_n 0, 1) := by decide +kernel
theorem dX6_begin_34 : decode cX6_begin 34 = .ok (.getfield 24, 3) := by decide +kernel
theorem dX6_begin_37 : decode cX6_begin 37 = .ok (.getfield 41, 3) := by decide +kernel
theorem dX6_begin_40 : decode cX6_begin 40 = .ok (.iload_n 1, 1) := by decide +kernel
theorem dX6_begin_41 : decode cX6_begin 41 = .ok (.iaload, 1) := by decide +kernel
theorem dX6_begin_42 : decode cX6_begin 42 = .ok (.goto 4, 3) := by decide +kernel
theorem dX6_begin_45 : decode cX6_begin 45 = .ok (.iconst 0, 1) := by decide +kernel
theorem dX6_begin_46 : decode cX6_begin 46 = .ok (.iastore, 1) := by decide +kernel
theorem dX6_begin_47 : decode cX6_begin 47 = .ok (.iinc 1 1, 3) := by decide +kernel
theorem dX6_begin_50 : decode cX6_begin 50 = .ok (.goto (-43), 3) := by decide +kernel
theorem dX6_begin_53 : decode cX6_begin 53 = .ok (.return_, 1) := by decide +kernel
theorem dX6_strip_0 : decode cX6_strip 0 = .ok (.aload_n 0, 1) := by decide +kernel
theorem dX6_strip_1 : decode cX6_strip 1 = .ok (.getfield 15, 3) := by decide +kernel
theorem dX6_strip_4 : decode cX6_strip 4 = .ok (.iload_n 1, 1) := by decide +kernel
theorem dX6_strip_5 : decode cX6_strip 5 = .ok (.iconst 0, 1) := by decide +kernel
theorem dX6_strip_6 : decode cX6_strip 6 = .ok (.iastore, 1) := by decide +kernel
theorem dX6_strip_7 : decode cX6_strip 7 = .ok (.bipush 6, 2) := by decide +kernel
theorem dX6_strip_9 : decode cX6_strip 9 = .ok (.iload_n 1, 1) := by decide +kernel
theorem dX6_strip_10 : decode cX6_strip 10 = .ok (.imul, 1) := by decide +kernel
theorem dX6_strip_11 : decode cX6_strip 11 = .ok (.istore_n 2, 1) := by decide +kernel
theorem dX6_strip_12 : decode cX6_strip 12 = .ok (.iload_n 2, 1) := by decide +kernel
theorem dX6_strip_13 : decode cX6_strip 13 = .ok (.bipush 6, 2) := by decide +kernel
theorem dX6_strip_15 : decode cX6_strip 15 = .ok (.iload_n 1, 1) := by decide +kernel
theorem dX6_strip_16 : decode cX6_strip 16 = .ok (.imul, 1) := by decide +kernel
theorem dX6_strip_17 : decode cX6_strip 17 = .ok (.bipush 6, 2) := by decide +kernel
theorem dX6_strip_19 : decode cX6_strip 19 = .ok (.iadd, 1) := by decide +kernel
theorem dX6_strip_20 : decode cX6_strip 20 = .ok (.if_icmp .ge 23, 3) := by decide +kernel
theorem dX6_strip_23 : decode cX6_strip 23 = .ok (.aload_n 0, 1) := by decide +kernel
theorem dX6_strip_24 : decode cX6_strip 24 = .ok (.getfield 18, 3) := by decide +kernel
theorem dX6_strip_27 : decode cX6_strip 27 = .ok (.iload_n 2, 1) := by decide +kernel
theorem dX6_strip_28 : decode cX6_strip 28 = .ok (.iconst 0, 1) := by decide +kernel
theorem dX6_strip_29 : decode cX6_strip 29 = .ok (.iastore, 1) := by decide +kernel
theorem dX6_strip_30 : decode cX6_strip 30 = .ok (.aload_n 0, 1) := by decide +kernel
theorem dX6_strip_31 : decode cX6_strip 31 = .ok (.getfield 21, 3) := by decide +kernel
theorem dX6_strip_34 : decode cX6_strip 34 = .ok (.iload_n 2, 1) := by decide +kernel
theorem dX6_strip_35 : decode cX6_strip 35 = .ok (.iconst 0, 1) := by decide +kernel
theorem dX6_strip_36 : decode cX6_strip 36 = .ok (.iastore, 1) := by decide +kernel
theorem dX6_strip_37 : decode cX6_strip 37 = .ok (.iinc 2 1, 3) := by decide +kernel
theorem dX6_strip_40 : decode cX6_strip 40 = .ok (.goto (-28), 3) := by decide +kernel
theorem dX6_strip_43 : decode cX6_strip 43 = .ok (.return_, 1) := by decide +kernel
theorem dX6_copyFrom_0 : decode cX6_copyFrom 0 = .ok (.aload_n 0, 1) := by decide +kernel
theorem dX6_copyFrom_1 : decode cX6_copyFrom 1 = .ok (.aload_n 1, 1) := by decide +kernel
theorem dX6_copyFrom_2 : decode cX6_copyFrom 2 = .ok (.getfield 28, 3) := by decide +kernel
theorem dX6_copyFrom_5 : decode cX6_copyFrom 5 = .ok (.putfield 28, 3) := by decide +kernel
theorem dX6_copyFrom_8 : decode cX6_copyFrom 8 = .ok (.aload_n 1, 1) := by decide +kernel
theorem dX6_copyFrom_9 : decode cX6_copyFrom 9 = .ok (.getfield 9, 3) := by decide +kernel
theorem dX6_copyFrom_12 : decode cX6_copyFrom 12 = .ok (.iconst 0, 1) := by decide +kernel
theorem dX6_copyFrom_13 : decode cX6_copyFrom 13 = .ok (.aload_n 0, 1) := by decide +kernel
theorem dX6_copyFrom_14 : decode cX6_copyFrom 14 = .ok (.getfield 9, 3) := by decide +kernel
theorem dX6_copyFrom_17 : decode cX6_copyFrom 17 = .ok (.iconst 0, 1) := by decide +kernel
theorem dX6_copyFrom_18 : decode cX6_copyFrom 18 = .ok (.iconst 3, 1) := by decide +kernel
theorem dX6_copyFrom_19 : decode cX6_copyFrom 19 = .ok (.invokestatic 42, 3) := by decide +kernel
theorem dX6_copyFrom_22 : decode cX6_copyFrom 22 = .ok (.aload_n 1, 1) := by decide +kernel
theorem dX6_copyFrom_23 : decode cX6_copyFrom 23 = .ok (.getfield 15, 3) := by decide +kernel
theorem dX6_copyFrom_26 : decode cX6_copyFrom 26 = .ok (.iconst 0, 1) := by decide +kernel
theorem dX6_copyFrom_27 : decode cX6_copyFrom 27 = .ok (.aload_n 0, 1) := by decide +kernel
theorem dX6_copyFrom_28 : decode cX6_copyFrom 28 = .ok (.getfield 15, 3) := by decide +kernel
theorem dX6_copyFrom_31 : decode cX6_copyFrom 31 = .ok (.iconst 0, 1) := by decide +kernel
theorem dX6_copyFrom_32 : decode cX6_copyFrom 32 = .ok (.iconst 3, 1) := by decide +kernel
theorem dX6_copyFrom_33 : decode cX6_copyFrom 33 = .ok (.invokestatic 42, 3) := by decide +kernel
theorem dX6_copyFrom_36 : decode cX6_copyFrom 36 = .ok (.aload_n 1, 1) := by decide +kernel
theorem dX6_copyFrom_37 : decode cX6_copyFrom 37 = .ok (.getfield 18, 3) := by decide +kernel
theorem dX6_copyFrom_40 : decode cX6_copyFrom 40 = .ok (.iconst 0, 1) := by decide +kernel
theorem dX6_copyFrom_41 : decode cX6_copyFrom 41 = .ok (.aload_n 0, 1) := by decide +kernel
theorem dX6_copyFrom_42 : decode cX6_copyFrom 42 = .ok (.getfield 18, 3) := by decide +kernel
theorem dX6_copyFrom_45 : decode cX6_copyFrom 45 = .ok (.iconst 0, 1) := by decide +kernel
theorem dX6_copyFrom_46 : decode cX6_copyFrom 46 = .ok (.bipush 18, 2) := by decide +kernel
theorem dX6_copyFrom_48 : decode cX6_copyFrom 48 = .ok (.invokestatic 42, 3) := by decide +kernel
theorem dX6_copyFrom_51 : decode cX6_copyFrom 51 = .ok (.aload_n 1, 1) := by decide +kernel
theorem dX6_copyFrom_52 : decode cX6_copyFrom 52 = .ok (.getfield 21, 3) := by decide +kernel
theorem dX6_copyFrom_55 : decode cX6_copyFrom 55 = .ok (.iconst 0, 1) := by decide +kernel
theorem dX6_copyFrom_56 : decode cX6_copyFrom 56 = .ok (.aload_n 0, 1) := by decide +kernel
theorem dX6_copyFrom_57 : decode cX6_copyFrom 57 = .ok (.getfield 21, 3) := by decide +kernel
theorem dX6_copyFrom_60 : decode cX6_copyFrom 60 = .ok (.iconst 0, 1) := by decide +kernel
theorem dX6_copyFrom_61 : decode cX6_copyFrom 61 = .ok (.bipush 18, 2) := by decide +kernel
theorem dX6_copyFrom_63 : decode cX6_copyFrom 63 = .ok (.invokestatic 42, 3) := by decide +kernel
theorem dX6_copyFrom_66 : decode cX6_copyFrom 66 = .ok (.return_, 1) := by decide +kernel
theorem dX6_damp_0 : decode cX6_damp 0 = .ok (.aload_n 0, 1) := by decide +kernel
theorem dX6_damp_1 : decode cX6_damp 1 = .ok (.getfield 24, 3) := by decide +kernel
theorem dX6_damp_4 : decode cX6_damp 4 = .ok (.aload_n 0, 1) := by decide +kernel
theorem dX6_damp_5 : decode cX6_damp 5 = .ok (.getfield 28, 3) := by decide +kernel
theorem dX6_damp_8 : decode cX6_damp 8 = .ok (.invokevirtual 48, 3) := by decide +kernel
theorem dX6_damp_11 : decode cX6_damp 11 = .ok (.ireturn, 1) := by decide +kernel
theorem dX6_layerAt_0 : decode cX6_layerAt 0 = .ok (.aload_n 0, 1) := by decide +kernel
theorem dX6_layerAt_1 : decode cX6_layerAt 1 = .ok (.getfield 21, 3) := by decide +kernel
theorem dX6_layerAt_4 : decode cX6_layerAt 4 = .ok (.iload_n 1, 1) := by decide +kernel
theorem dX6_layerAt_5 : decode cX6_layerAt 5 = .ok (.iaload, 1) := by decide +kernel
theorem dX6_layerAt_6 : decode cX6_layerAt 6 = .ok (.iconst 3, 1) := by decide +kernel
theorem dX6_layerAt_7 : decode cX6_layerAt 7 = .ok (.iload_n 2, 1) := by decide +kernel
theorem dX6_layerAt_8 : decode cX6_layerAt 8 = .ok (.imul, 1) := by decide +kernel
theorem dX6_layerAt_9 : decode cX6_layerAt 9 = .ok (.ishr, 1) := by decide +kernel
theorem dX6_layerAt_10 : decode cX6_layerAt 10 = .ok (.bipush 7, 2) := by decide +kernel
theorem dX6_layerAt_12 : decode cX6_layerAt 12 = .ok (.iand, 1) := by decide +kernel
theorem dX6_layerAt_13 : decode cX6_layerAt 13 = .ok (.ireturn, 1) := by decide +kernel
theorem dX6_freeLinesOf_0 : decode cX6_freeLinesOf 0 = .ok (.iconst 0, 1) := by decide +kernel
theorem dX6_freeLinesOf_1 : decode cX6_freeLinesOf 1 = .ok (.istore_n 2, 1) := by decide +kernel
theorem dX6_freeLinesOf_2 : decode cX6_freeLinesOf 2 = .ok (.iconst 0, 1) := by decide +kernel
theorem dX6_freeLinesOf_3 : decode cX6_freeLinesOf 3 = .ok (.istore_n 3, 1) := by decide +kernel
theorem dX6_freeLinesOf_4 : decode cX6_freeLinesOf 4 = .ok (.iload_n 3, 1) := by decide +kernel
theorem dX6_freeLinesOf_5 : decode cX6_freeLinesOf 5 = .ok (.aload_n 0, 1) := by decide +kernel
theorem dX6_freeLinesOf_6 : decode cX6_freeLinesOf 6 = .ok (.getfield 24, 3) := by decide +kernel
theorem dX6_freeLinesOf_9 : decode cX6_freeLinesOf 9 = .ok (.getfield 52, 3) := by decide +kernel
theorem dX6_freeLinesOf_12 : decode cX6_freeLinesOf 12 = .ok (.iload_n 1, 1) := by decide +kernel
theorem dX6_freeLinesOf_13 : decode cX6_freeLinesOf 13 = .ok (.iaload, 1) := by decide +kernel
theorem dX6_freeLinesOf_14 : decode cX6_freeLinesOf 14 = .ok (.if_icmp .ge 40, 3) := by decide +kernel
theorem dX6_freeLinesOf_17 : decode cX6_freeLinesOf 17 = .ok (.aload_n 0, 1) := by decide +kernel
theorem dX6_freeLinesOf_18 : decode cX6_freeLinesOf 18 = .ok (.getfield 9, 3) := by decide +kernel
theorem dX6_freeLinesOf_21 : decode cX6_freeLinesOf 21 = .ok (.iload_n 1, 1) := by decide +kernel
theorem dX6_freeLinesOf_22 : decode cX6_freeLinesOf 22 = .ok (.iaload, 1) := by decide +kernel
theorem dX6_freeLinesOf_23 : decode cX6_freeLinesOf 23 = .ok (.ifCond .le 31, 3) := by decide +kernel
theorem dX6_freeLinesOf_26 : decode cX6_freeLinesOf 26 = .ok (.aload_n 0, 1) := by decide +kernel
theorem dX6_freeLinesOf_27 : decode cX6_freeLinesOf 27 = .ok (.getfield 18, 3) := by decide +kernel
theorem dX6_freeLinesOf_30 : decode cX6_freeLinesOf 30 = .ok (.bipush 6, 2) := by decide +kernel
theorem dX6_freeLinesOf_32 : decode cX6_freeLinesOf 32 = .ok (.iload_n 1, 1) := by decide +kernel
theorem dX6_freeLinesOf_33 : decode cX6_freeLinesOf 33 = .ok (.imul, 1) := by decide +kernel
theorem dX6_freeLinesOf_34 : decode cX6_freeLinesOf 34 = .ok (.iload_n 3, 1) := by decide +kernel
theorem dX6_freeLinesOf_35 : decode cX6_freeLinesOf 35 = .ok (.iadd, 1) := by decide +kernel
theorem dX6_freeLinesOf_36 : decode cX6_freeLinesOf 36 = .ok (.iaload, 1) := by decide +kernel
theorem dX6_freeLinesOf_37 : decode cX6_freeLinesOf 37 = .ok (.bipush 9, 2) := by decide +kernel
theorem dX6_freeLinesOf_39 : decode cX6_freeLinesOf 39 = .ok (.if_icmp .ge 9, 3) := by decide +kernel
theorem dX6_freeLinesOf_42 : decode cX6_freeLinesOf 42 = .ok (.iload_n 2, 1) := by decide +kernel
theorem dX6_freeLinesOf_43 : decode cX6_freeLinesOf 43 = .ok (.iconst 1, 1) := by decide +kernel
theorem dX6_freeLinesOf_44 : decode cX6_freeLinesOf 44 = .ok (.iload_n 3, 1) := by decide +kernel
theorem dX6_freeLinesOf_45 : decode cX6_freeLinesOf 45 = .ok (.ishl, 1) := by decide +kernel
theorem dX6_freeLinesOf_46 : decode cX6_freeLinesOf 46 = .ok (.ior, 1) := by decide +kernel
theorem dX6_freeLinesOf_47 : decode cX6_freeLinesOf 47 = .ok (.istore_n 2, 1) := by decide +kernel
theorem dX6_freeLinesOf_48 : decode cX6_freeLinesOf 48 = .ok (.iinc 3 1, 3) := by decide +kernel
theorem dX6_freeLinesOf_51 : decode cX6_freeLinesOf 51 = .ok (.goto (-47), 3) := by decide +kernel
theorem dX6_freeLinesOf_54 : decode cX6_freeLinesOf 54 = .ok (.iload_n 2, 1) := by decide +kernel
theorem dX6_freeLinesOf_55 : decode cX6_freeLinesOf 55 = .ok (.aload_n 0, 1) := by decide +kernel
theorem dX6_freeLinesOf_56 : decode cX6_freeLinesOf 56 = .ok (.getfield 24, 3) := by decide +kernel
theorem dX6_freeLinesOf_59 : decode cX6_freeLinesOf 59 = .ok (.getfield 55, 3) := by decide +kernel
theorem dX6_freeLinesOf_62 : decode cX6_freeLinesOf 62 = .ok (.iload_n 1, 1) := by decide +kernel
theorem dX6_freeLinesOf_63 : decode cX6_freeLinesOf 63 = .ok (.iaload, 1) := by decide +kernel
theorem dX6_freeLinesOf_64 : decode cX6_freeLinesOf 64 = .ok (.iconst (-1), 1) := by decide +kernel
theorem dX6_freeLinesOf_65 : decode cX6_freeLinesOf 65 = .ok (.ixor, 1) := by decide +kernel
theorem dX6_freeLinesOf_66 : decode cX6_freeLinesOf 66 = .ok (.iand, 1) := by decide +kernel
theorem dX6_freeLinesOf_67 : decode cX6_freeLinesOf 67 = .ok (.aload_n 0, 1) := by decide +kernel
theorem dX6_freeLinesOf_68 : decode cX6_freeLinesOf 68 = .ok (.getfield 15, 3) := by decide +kernel
theorem dX6_freeLinesOf_71 : decode cX6_freeLinesOf 71 = .ok (.iload_n 1, 1) := by decide +kernel
theorem dX6_freeLinesOf_72 : decode cX6_freeLinesOf 72 = .ok (.iaload, 1) := by decide +kernel
theorem dX6_freeLinesOf_73 : decode cX6_freeLinesOf 73 = .ok (.iconst (-1), 1) := by decide +kernel
theorem dX6_freeLinesOf_74 : decode cX6_freeLinesOf 74 = .ok (.ixor, 1) := by decide +kernel
theorem dX6_freeLinesOf_75 : decode cX6_freeLinesOf 75 = .ok (.iand, 1) := by decide +kernel
theorem dX6_freeLinesOf_76 : decode cX6_freeLinesOf 76 = .ok (.ireturn, 1) := by decide +kernel
theorem dX6_freeLines_0 : decode cX6_freeLines 0 = .ok (.iconst 0, 1) := by decide +kernel
theorem dX6_freeLines_1 : decode cX6_freeLines 1 = .ok (.istore_n 1, 1) := by decide +kernel
theorem dX6_freeLines_2 : decode cX6_freeLines 2 = .ok (.iconst 0, 1) := by decide +kernel
theorem dX6_freeLines_3 : decode cX6_freeLines 3 = .ok (.istore_n 2, 1) := by decide +kernel
theorem dX6_freeLines_4 : decode cX6_freeLines 4 = .ok (.iload_n 2, 1) := by decide +kernel
theorem dX6_freeLines_5 : decode cX6_freeLines 5 = .ok (.aload_n 0, 1) := by decide +kernel
theorem dX6_freeLines_6 : decode cX6_freeLines 6 = .ok (.getfield 24, 3) := by decide +kernel
theorem dX6_freeLines_9 : decode cX6_freeLines 9 = .ok (.getfield 36, 3) := by decide +kernel
theorem dX6_freeLines_12 : decode cX6_freeLines 12 = .ok (.if_icmp .ge 22, 3) := by decide +kernel
theorem dX6_freeLines_15 : decode cX6_freeLines 15 = .ok (.iload_n 1, 1) := by decide +kernel
theorem dX6_freeLines_16 : decode cX6_freeLines 16 = .ok (.aload_n 0, 1) := by decide +kernel
theorem dX6_freeLines_17 : decode cX6_freeLines 17 = .ok (.iload_n 2, 1) := by decide +kernel
theorem dX6_freeLines_18 : decode cX6_freeLines 18 = .ok (.invokevirtual 58, 3) := by decide +kernel
theorem dX6_freeLines_21 : decode cX6_freeLines 21 = .ok (.bipush 6, 2) := by decide +kernel
theorem dX6_freeLines_23 : decode cX6_freeLines 23 = .ok (.iload_n 2, 1) := by decide +kernel
theorem dX6_freeLines_24 : decode cX6_freeLines 24 = .ok (.imul, 1) := by decide +kernel
theorem dX6_freeLines_25 : decode cX6_freeLines 25 = .ok (.ishl, 1) := by decide +kernel
theorem dX6_freeLines_26 : decode cX6_freeLines 26 = .ok (.ior, 1) := by decide +kernel
theorem dX6_freeLines_27 : decode cX6_freeLines 27 = .ok (.istore_n 1, 1) := by decide +kernel
theorem dX6_freeLines_28 : decode cX6_freeLines 28 = .ok (.iinc 2 1, 3) := by decide +kernel
theorem dX6_freeLines_31 : decode cX6_freeLines 31 = .ok (.goto (-27), 3) := by decide +kernel
theorem dX6_freeLines_34 : decode cX6_freeLines 34 = .ok (.iload_n 1, 1) := by decide +kernel
theorem dX6_freeLines_35 : decode cX6_freeLines 35 = .ok (.ireturn, 1) := by decide +kernel
theorem dX6_canWrite_0 : decode cX6_canWrite 0 = .ok (.iload_n 3, 1) := by decide +kernel
theorem dX6_canWrite_1 : decode cX6_canWrite 1 = .ok (.ifCond .lt 26, 3) := by decide +kernel
theorem dX6_canWrite_4 : decode cX6_canWrite 4 = .ok (.iload_n 3, 1) := by decide +kernel
theorem dX6_canWrite_5 : decode cX6_canWrite 5 = .ok (.aload_n 0, 1) := by decide +kernel
theorem dX6_canWrite_6 : decode cX6_canWrite 6 = .ok (.getfield 24, 3) := by decide +kernel
theorem dX6_canWrite_9 : decode cX6_canWrite 9 = .ok (.getfield 52, 3) := by decide +kernel
theorem dX6_canWrite_12 : decode cX6_canWrite 12 = .ok (.iload_n 2, 1) := by decide +kernel
theorem dX6_canWrite_13 : decode cX6_canWrite 13 = .ok (.iaload, 1) := by decide +kernel
theorem dX6_canWrite_14 : decode cX6_canWrite 14 = .ok (.aload_n 0, 1) := by decide +kernel
theorem dX6_canWrite_15 : decode cX6_canWrite 15 = .ok (.getfield 24, 3) := by decide +kernel
theorem dX6_canWrite_18 : decode cX6_canWrite 18 = .ok (.getfield 61, 3) := by decide +kernel
theorem dX6_canWrite_21 : decode cX6_canWrite 21 = .ok (.iload_n 1, 1) := by decide +kernel
theorem dX6_canWrite_22 : decode cX6_canWrite 22 = .ok (.iaload, 1) := by decide +kernel
theorem dX6_canWrite_23 : decode cX6_canWrite 23 = .ok (.isub, 1) := by decide +kernel
theorem dX6_canWrite_24 : decode cX6_canWrite 24 = .ok (.if_icmp .le 5, 3) := by decide +kernel
theorem dX6_canWrite_27 : decode cX6_canWrite 27 = .ok (.iconst 0, 1) := by decide +kernel
theorem dX6_canWrite_28 : decode cX6_canWrite 28 = .ok (.ireturn, 1) := by decide +kernel
theorem dX6_canWrite_29 : decode cX6_canWrite 29 = .ok (.iconst 1, 1) := by decide +kernel
theorem dX6_canWrite_30 : decode cX6_canWrite 30 = .ok (.aload_n 0, 1) := by decide +kernel
theorem dX6_canWrite_31 : decode cX6_canWrite 31 = .ok (.getfield 24, 3) := by decide +kernel
theorem dX6_canWrite_34 : decode cX6_canWrite 34 = .ok (.getfield 61, 3) := by decide +kernel
theorem dX6_canWrite_37 : decode cX6_canWrite 37 = .ok (.iload_n 1, 1) := by decide +kernel
theorem dX6_canWrite_38 : decode cX6_canWrite 38 = .ok (.iaload, 1) := by decide +kernel
theorem dX6_canWrite_39 : decode cX6_canWrite 39 = .ok (.ishl, 1) := by decide +kernel
theorem dX6_canWrite_40 : decode cX6_canWrite 40 = .ok (.iconst 1, 1) := by decide +kernel
theorem dX6_canWrite_41 : decode cX6_canWrite 41 = .ok (.isub, 1) := by decide +kernel
theorem dX6_canWrite_42 : decode cX6_canWrite 42 = .ok (.iload_n 3, 1) := by decide +kernel
theorem dX6_canWrite_43 : decode cX6_canWrite 43 = .ok (.ishl, 1) := by decide +kernel
theorem dX6_canWrite_44 : decode cX6_canWrite 44 = .ok (.istore 4, 2) := by decide +kernel
theorem dX6_canWrite_46 : decode cX6_canWrite 46 = .ok (.iload 4, 2) := by decide +kernel
theorem dX6_canWrite_48 : decode cX6_canWrite 48 = .ok (.aload_n 0, 1) := by decide +kernel
theorem dX6_canWrite_49 : decode cX6_canWrite 49 = .ok (.iload_n 2, 1) := by decide +kernel
theorem dX6_canWrite_50 : decode cX6_canWrite 50 = .ok (.invokevirtual 58, 3) := by decide +kernel
theorem dX6_canWrite_53 : decode cX6_canWrite 53 = .ok (.iconst (-1), 1) := by decide +kernel
theorem dX6_canWrite_54 : decode cX6_canWrite 54 = .ok (.ixor, 1) := by decide +kernel
theorem dX6_canWrite_55 : decode cX6_canWrite 55 = .ok (.iand, 1) := by decide +kernel
theorem dX6_canWrite_56 : decode cX6_canWrite 56 = .ok (.ifCond .ne 7, 3) := by decide +kernel
theorem dX6_canWrite_59 : decode cX6_canWrite 59 = .ok (.iconst 1, 1) := by decide +kernel
theorem dX6_canWrite_60 : decode cX6_canWrite 60 = .ok (.goto 4, 3) := by decide +kernel
theorem dX6_canWrite_63 : decode cX6_canWrite 63 = .ok (.iconst 0, 1) := by decide +kernel
theorem dX6_canWrite_64 : decode cX6_canWrite 64 = .ok (.ireturn, 1) := by decide +kernel
theorem dX6_firstPlace_0 : decode cX6_firstPlace 0 = .ok (.iconst 0, 1) := by decide +kernel
theorem dX6_firstPlace_1 : decode cX6_firstPlace 1 = .ok (.istore_n 3, 1) := by decide +kernel
theorem dX6_firstPlace_2 : decode cX6_firstPlace 2 = .ok (.iload_n 3, 1) := by decide +kernel
theorem dX6_firstPlace_3 : decode cX6_firstPlace 3 = .ok (.aload_n 0, 1) := by decide +kernel
theorem dX6_firstPlace_4 : decode cX6_firstPlace 4 = .ok (.getfield 24, 3) := by decide +kernel
theorem dX6_firstPlace_7 : decode cX6_firstPlace 7 = .ok (.getfield 52, 3) := by decide +kernel
theorem dX6_firstPlace_10 : decode cX6_firstPlace 10 = .ok (.iload_n 2, 1) := by decide +kernel
theorem dX6_firstPlace_11 : decode cX6_firstPlace 11 = .ok (.iaload, 1) := by decide +kernel
theorem dX6_firstPlace_12 : decode cX6_firstPlace 12 = .ok (.if_icmp .ge 21, 3) := by decide +kernel
theorem dX6_firstPlace_15 : decode cX6_firstPlace 15 = .ok (.aload_n 0, 1) := by decide +kernel
theorem dX6_firstPlace_16 : decode cX6_firstPlace 16 = .ok (.iload_n 1, 1) := by decide +kernel
theorem dX6_firstPlace_17 : decode cX6_firstPlace 17 = .ok (.iload_n 2, 1) := by decide +kernel
theorem dX6_firstPlace_18 : decode cX6_firstPlace 18 = .ok (.iload_n 3, 1) := by decide +kernel
theorem dX6_firstPlace_19 : decode cX6_firstPlace 19 = .ok (.invokevirtual 64, 3) := by decide +kernel
theorem dX6_firstPlace_22 : decode cX6_firstPlace 22 = .ok (.ifCond .eq 5, 3) := by decide +kernel
theorem dX6_firstPlace_25 : decode cX6_firstPlace 25 = .ok (.iload_n 3, 1) := by decide +kernel
theorem dX6_firstPlace_26 : decode cX6_firstPlace 26 = .ok (.ireturn, 1) := by decide +kernel
theorem dX6_firstPlace_27 : decode cX6_firstPlace 27 = .ok (.iinc 3 1, 3) := by decide +kernel
theorem dX6_firstPlace_30 : decode cX6_firstPlace 30 = .ok (.goto (-28), 3) := by decide +kernel
theorem dX6_firstPlace_33 : decode cX6_firstPlace 33 = .ok (.iconst (-1), 1) := by decide +kernel
theorem dX6_firstPlace_34 : decode cX6_firstPlace 34 = .ok (.ireturn, 1) := by decide +kernel
theorem dX6_put_0 : decode cX6_put 0 = .ok (.iload_n 3, 1) := by decide +kernel
theorem dX6_put_1 : decode cX6_put 1 = .ok (.istore 4, 2) := by decide +kernel
theorem dX6_put_3 : decode cX6_put 3 = .ok (.iload 4, 2) := by decide +kernel
theorem dX6_put_5 : decode cX6_put 5 = .ok (.iload_n 3, 1) := by decide +kernel
theorem dX6_put_6 : decode cX6_put 6 = .ok (.aload_n 0, 1) := by decide +kernel
theorem dX6_put_7 : decode cX6_put 7 = .ok (.getfield 24, 3) := by decide +kernel
theorem dX6_put_10 : decode cX6_put 10 = .ok (.getfield 61, 3) := by decide +kernel
theorem dX6_put_13 : decode cX6_put 13 = .ok (.iload_n 1, 1) := by decide +kernel
theorem dX6_put_14 : decode cX6_put 14 = .ok (.iaload, 1) := by decide +kernel
theorem dX6_put_15 : decode cX6_put 15 = .ok (.iadd, 1) := by decide +kernel
theorem dX6_put_16 : decode cX6_put 16 = .ok (.if_icmp .ge 70, 3) := by decide +kernel
theorem dX6_put_19 : decode cX6_put 19 = .ok (.iload 4, 2) := by decide +kernel
theorem dX6_put_21 : decode cX6_put 21 = .ok (.bipush 6, 2) := by decide +kernel
theorem dX6_put_23 : decode cX6_put 23 = .ok (.if_icmp .ge 63, 3) := by decide +kernel
theorem dX6_put_26 : decode cX6_put 26 = .ok (.bipush 6, 2) := by decide +kernel
theorem dX6_put_28 : decode cX6_put 28 = .ok (.iload_n 2, 1) := by decide +kernel
theorem dX6_put_29 : decode cX6_put 29 = .ok (.imul, 1) := by decide +kernel
theorem dX6_put_30 : decode cX6_put 30 = .ok (.iload 4, 2) := by decide +kernel
theorem dX6_put_32 : decode cX6_put 32 = .ok (.iadd, 1) := by decide +kernel
theorem dX6_put_33 : decode cX6_put 33 = .ok (.istore 5, 2) := by decide +kernel
theorem dX6_put_35 : decode cX6_put 35 = .ok (.aload_n 0, 1) := by decide +kernel
theorem dX6_put_36 : decode cX6_put 36 = .ok (.getfield 21, 3) := by decide +kernel
theorem dX6_put_39 : decode cX6_put 39 = .ok (.iload 5, 2) := by decide +kernel
theorem dX6_put_41 : decode cX6_put 41 = .ok (.dup2, 1) := by decide +kernel
theorem dX6_put_42 : decode cX6_put 42 = .ok (.iaload, 1) := by decide +kernel
theorem dX6_put_43 : decode cX6_put 43 = .ok (.iload_n 1, 1) := by decide +kernel
theorem dX6_put_44 : decode cX6_put 44 = .ok (.iconst 3, 1) := by decide +kernel
theorem dX6_put_45 : decode cX6_put 45 = .ok (.aload_n 0, 1) := by decide +kernel
theorem dX6_put_46 : decode cX6_put 46 = .ok (.getfield 18, 3) := by decide +kernel
theorem dX6_put_49 : decode cX6_put 49 = .ok (.iload 5, 2) := by decide +kernel
theorem dX6_put_51 : decode cX6_put 51 = .ok (.iaload, 1) := by decide +kernel
theorem dX6_put_52 : decode cX6_put 52 = .ok (.imul, 1) := by decide +kernel
theorem dX6_put_53 : decode cX6_put 53 = .ok (.ishl, 1) := by decide +kernel
theorem dX6_put_54 : decode cX6_put 54 = .ok (.ior, 1) := by decide +kernel
theorem dX6_put_55 : decode cX6_put 55 = .ok (.iastore, 1) := by decide +kernel
theorem dX6_put_56 : decode cX6_put 56 = .ok (.aload_n 0, 1) := by decide +kernel
theorem dX6_put_57 : decode cX6_put 57 = .ok (.getfield 18, 3) := by decide +kernel
theorem dX6_put_60 : decode cX6_put 60 = .ok (.iload 5, 2) := by decide +kernel
theorem dX6_put_62 : decode cX6_put 62 = .ok (.dup2, 1) := by decide +kernel
theorem dX6_put_63 : decode cX6_put 63 = .ok (.iaload, 1) := by decide +kernel
theorem dX6_put_64 : decode cX6_put 64 = .ok (.iconst 1, 1) := by decide +kernel
theorem dX6_put_65 : decode cX6_put 65 = .ok (.iadd, 1) := by decide +kernel
theorem dX6_put_66 : decode cX6_put 66 = .ok (.iastore, 1) := by decide +kernel
theorem dX6_put_67 : decode cX6_put 67 = .ok (.aload_n 0, 1) := by decide +kernel
theorem dX6_put_68 : decode cX6_put 68 = .ok (.getfield 15, 3) := by decide +kernel
theorem dX6_put_71 : decode cX6_put 71 = .ok (.iload_n 2, 1) := by decide +kernel
theorem dX6_put_72 : decode cX6_put 72 = .ok (.dup2, 1) := by decide +kernel
theorem dX6_put_73 : decode cX6_put 73 = .ok (.iaload, 1) := by decide +kernel
theorem dX6_put_74 : decode cX6_put 74 = .ok (.iconst 1, 1) := by decide +kernel
theorem dX6_put_75 : decode cX6_put 75 = .ok (.iload 4, 2) := by decide +kernel
theorem dX6_put_77 : decode cX6_put 77 = .ok (.ishl, 1) := by decide +kernel
theorem dX6_put_78 : decode cX6_put 78 = .ok (.ior, 1) := by decide +kernel
theorem dX6_put_79 : decode cX6_put 79 = .ok (.iastore, 1) := by decide +kernel
theorem dX6_put_80 : decode cX6_put 80 = .ok (.iinc 4 1, 3) := by decide +kernel
theorem dX6_put_83 : decode cX6_put 83 = .ok (.goto (-80), 3) := by decide +kernel
theorem dX6_put_86 : decode cX6_put 86 = .ok (.return_, 1) := by decide +kernel
theorem dX6_canRub_0 : decode cX6_canRub 0 = .ok (.aload_n 0, 1) := by decide +kernel
theorem dX6_canRub_1 : decode cX6_canRub 1 = .ok (.getfield 15, 3) := by decide +kernel
theorem dX6_canRub_4 : decode cX6_canRub 4 = .ok (.iload_n 1, 1) := by decide +kernel
theorem dX6_canRub_5 : decode cX6_canRub 5 = .ok (.iaload, 1) := by decide +kernel
theorem dX6_canRub_6 : decode cX6_canRub 6 = .ok (.iload_n 2, 1) := by decide +kernel
theorem dX6_canRub_7 : decode cX6_canRub 7 = .ok (.iand, 1) := by decide +kernel
theorem dX6_canRub_8 : decode cX6_canRub 8 = .ok (.ifCond .eq 7, 3) := by decide +kernel
theorem dX6_canRub_11 : decode cX6_canRub 11 = .ok (.iconst 1, 1) := by decide +kernel
theorem dX6_canRub_12 : decode cX6_canRub 12 = .ok (.goto 4, 3) := by decide +kernel
theorem dX6_canRub_15 : decode cX6_canRub 15 = .ok (.iconst 0, 1) := by decide +kernel
theorem dX6_canRub_16 : decode cX6_canRub 16 = .ok (.ireturn, 1) := by decide +kernel
theorem dX6_rub_0 : decode cX6_rub 0 = .ok (.aload_n 0, 1) := by decide +kernel
theorem dX6_rub_1 : decode cX6_rub 1 = .ok (.getfield 15, 3) := by decide +kernel
theorem dX6_rub_4 : decode cX6_rub 4 = .ok (.iload_n 1, 1) := by decide +kernel
theorem dX6_rub_5 : decode cX6_rub 5 = .ok (.iaload, 1) := by decide +kernel
theorem dX6_rub_6 : decode cX6_rub 6 = .ok (.iload_n 2, 1) := by decide +kernel
theorem dX6_rub_7 : decode cX6_rub 7 = .ok (.iand, 1) := by decide +kernel
theorem dX6_rub_8 : decode cX6_rub 8 = .ok (.istore_n 3, 1) := by decide +kernel
theorem dX6_rub_9 : decode cX6_rub 9 = .ok (.iload_n 3, 1) := by decide +kernel
theorem dX6_rub_10 : decode cX6_rub 10 = .ok (.ifCond .ne 5, 3) := by decide +kernel
theorem dX6_rub_13 : decode cX6_rub 13 = .ok (.iconst 0, 1) := by decide +kernel
theorem dX6_rub_14 : decode cX6_rub 14 = .ok (.ireturn, 1) := by decide +kernel
theorem dX6_rub_15 : decode cX6_rub 15 = .ok (.aload_n 0, 1) := by decide +kernel
theorem dX6_rub_16 : decode cX6_rub 16 = .ok (.getfield 9, 3) := by decide +kernel
theorem dX6_rub_19 : decode cX6_rub 19 = .ok (.iload_n 1, 1) := by decide +kernel
theorem dX6_rub_20 : decode cX6_rub 20 = .ok (.iconst 0, 1) := by decide +kernel
theorem dX6_rub_21 : decode cX6_rub 21 = .ok (.aload_n 0, 1) := by decide +kernel
theorem dX6_rub_22 : decode cX6_rub 22 = .ok (.getfield 9, 3) := by decide +kernel
theorem dX6_rub_25 : decode cX6_rub 25 = .ok (.iload_n 1, 1) := by decide +kernel
theorem dX6_rub_26 : decode cX6_rub 26 = .ok (.iaload, 1) := by decide +kernel
theorem dX6_rub_27 : decode cX6_rub 27 = .ok (.aload_n 0, 1) := by decide +kernel
theorem dX6_rub_28 : decode cX6_rub 28 = .ok (.iload_n 1, 1) := by decide +kernel
theorem dX6_rub_29 : decode cX6_rub 29 = .ok (.iload_n 3, 1) := by decide +kernel
theorem dX6_rub_30 : decode cX6_rub 30 = .ok (.invokevirtual 68, 3) := by decide +kernel
theorem dX6_rub_33 : decode cX6_rub 33 = .ok (.isub, 1) := by decide +kernel
theorem dX6_rub_34 : decode cX6_rub 34 = .ok (.invokestatic 72, 3) := by decide +kernel
theorem dX6_rub_37 : decode cX6_rub 37 = .ok (.iastore, 1) := by decide +kernel
theorem dX6_rub_38 : decode cX6_rub 38 = .ok (.aload_n 0, 1) := by decide +kernel
theorem dX6_rub_39 : decode cX6_rub 39 = .ok (.getfield 15, 3) := by decide +kernel
theorem dX6_rub_42 : decode cX6_rub 42 = .ok (.iload_n 1, 1) := by decide +kernel
theorem dX6_rub_43 : decode cX6_rub 43 = .ok (.dup2, 1) := by decide +kernel
theorem dX6_rub_44 : decode cX6_rub 44 = .ok (.iaload, 1) := by decide +kernel
theorem dX6_rub_45 : decode cX6_rub 45 = .ok (.iload_n 3, 1) := by decide +kernel
theorem dX6_rub_46 : decode cX6_rub 46 = .ok (.iconst (-1), 1) := by decide +kernel
theorem dX6_rub_47 : decode cX6_rub 47 = .ok (.ixor, 1) := by decide +kernel
theorem dX6_rub_48 : decode cX6_rub 48 = .ok (.iand, 1) := by decide +kernel
theorem dX6_rub_49 : decode cX6_rub 49 = .ok (.iastore, 1) := by decide +kernel
theorem dX6_rub_50 : decode cX6_rub 50 = .ok (.aload_n 0, 1) := by decide +kernel
theorem dX6_rub_51 : decode cX6_rub 51 = .ok (.getfield 9, 3) := by decide +kernel
theorem dX6_rub_54 : decode cX6_rub 54 = .ok (.iload_n 1, 1) := by decide +kernel
theorem dX6_rub_55 : decode cX6_rub 55 = .ok (.iaload, 1) := by decide +kernel
theorem dX6_rub_56 : decode cX6_rub 56 = .ok (.ifCond .ne 8, 3) := by decide +kernel
theorem dX6_rub_59 : decode cX6_rub 59 = .ok (.aload_n 0, 1) := by decide +kernel
theorem dX6_rub_60 : decode cX6_rub 60 = .ok (.iload_n 1, 1) := by decide +kernel
theorem dX6_rub_61 : decode cX6_rub 61 = .ok (.invokevirtual 32, 3) := by decide +kernel
theorem dX6_rub_64 : decode cX6_rub 64 = .ok (.iconst 1, 1) := by decide +kernel
theorem dX6_rub_65 : decode cX6_rub 65 = .ok (.ireturn, 1) := by decide +kernel
theorem dX6_wearOf_0 : decode cX6_wearOf 0 = .ok (.iconst 0, 1) := by decide +kernel
theorem dX6_wearOf_1 : decode cX6_wearOf 1 = .ok (.istore_n 3, 1) := by decide +kernel
theorem dX6_wearOf_2 : decode cX6_wearOf 2 = .ok (.iconst 0, 1) := by decide +kernel
theorem dX6_wearOf_3 : decode cX6_wearOf 3 = .ok (.istore 4, 2) := by decide +kernel
theorem dX6_wearOf_5 : decode cX6_wearOf 5 = .ok (.iconst 0, 1) := by decide +kernel
theorem dX6_wearOf_6 : decode cX6_wearOf 6 = .ok (.istore 5, 2) := by decide +kernel
theorem dX6_wearOf_8 : decode cX6_wearOf 8 = .ok (.iload 5, 2) := by decide +kernel
theorem dX6_wearOf_10 : decode cX6_wearOf 10 = .ok (.bipush 6, 2) := by decide +kernel
theorem dX6_wearOf_12 : decode cX6_wearOf 12 = .ok (.if_icmp .ge 91, 3) := by decide +kernel
theorem dX6_wearOf_15 : decode cX6_wearOf 15 = .ok (.bipush 6, 2) := by decide +kernel
theorem dX6_wearOf_17 : decode cX6_wearOf 17 = .ok (.iload_n 1, 1) := by decide +kernel
theorem dX6_wearOf_18 : decode cX6_wearOf 18 = .ok (.imul, 1) := by decide +kernel
theorem dX6_wearOf_19 : decode cX6_wearOf 19 = .ok (.iload 5, 2) := by decide +kernel
theorem dX6_wearOf_21 : decode cX6_wearOf 21 = .ok (.iadd, 1) := by decide +kernel
theorem dX6_wearOf_22 : decode cX6_wearOf 22 = .ok (.istore 6, 2) := by decide +kernel
theorem dX6_wearOf_24 : decode cX6_wearOf 24 = .ok (.iload_n 2, 1) := by decide +kernel
theorem dX6_wearOf_25 : decode cX6_wearOf 25 = .ok (.iload 5, 2) := by decide +kernel
theorem dX6_wearOf_27 : decode cX6_wearOf 27 = .ok (.ishr, 1) := by decide +kernel
theorem dX6_wearOf_28 : decode cX6_wearOf 28 = .ok (.iconst 1, 1) := by decide +kernel
theorem dX6_wearOf_29 : decode cX6_wearOf 29 = .ok (.iand, 1) := by decide +kernel
theorem dX6_wearOf_30 : decode cX6_wearOf 30 = .ok (.ifCond .eq 67, 3) := by decide +kernel
theorem dX6_wearOf_33 : decode cX6_wearOf 33 = .ok (.aload_n 0, 1) := by decide +kernel
theorem dX6_wearOf_34 : decode cX6_wearOf 34 = .ok (.getfield 18, 3) := by decide +kernel
theorem dX6_wearOf_37 : decode cX6_wearOf 37 = .ok (.iload 6, 2) := by decide +kernel
theorem dX6_wearOf_39 : decode cX6_wearOf 39 = .ok (.iaload, 1) := by decide +kernel
theorem dX6_wearOf_40 : decode cX6_wearOf 40 = .ok (.ifCond .le 57, 3) := by decide +kernel
theorem dX6_wearOf_43 : decode cX6_wearOf 43 = .ok (.aload_n 0, 1) := by decide +kernel
theorem dX6_wearOf_44 : decode cX6_wearOf 44 = .ok (.iload 6, 2) := by decide +kernel
theorem dX6_wearOf_46 : decode cX6_wearOf 46 = .ok (.aload_n 0, 1) := by decide +kernel
theorem dX6_wearOf_47 : decode cX6_wearOf 47 = .ok (.getfield 18, 3) := by decide +kernel
theorem dX6_wearOf_50 : decode cX6_wearOf 50 = .ok (.iload 6, 2) := by decide +kernel
theorem dX6_wearOf_52 : decode cX6_wearOf 52 = .ok (.iaload, 1) := by decide +kernel
theorem dX6_wearOf_53 : decode cX6_wearOf 53 = .ok (.iconst 1, 1) := by decide +kernel
theorem dX6_wearOf_54 : decode cX6_wearOf 54 = .ok (.isub, 1) := by decide +kernel
theorem dX6_wearOf_55 : decode cX6_wearOf 55 = .ok (.invokevirtual 77, 3) := by decide +kernel
theorem dX6_wearOf_58 : decode cX6_wearOf 58 = .ok (.istore 7, 2) := by decide +kernel
theorem dX6_wearOf_60 : decode cX6_wearOf 60 = .ok (.iload_n 3, 1) := by decide +kernel
theorem dX6_wearOf_61 : decode cX6_wearOf 61 = .ok (.aload_n 0, 1) := by decide +kernel
theorem dX6_wearOf_62 : decode cX6_wearOf 62 = .ok (.getfield 24, 3) := by decide +kernel
theorem dX6_wearOf_65 : decode cX6_wearOf 65 = .ok (.getfield 80, 3) := by decide +kernel
theorem dX6_wearOf_68 : decode cX6_wearOf 68 = .ok (.iload 7, 2) := by decide +kernel
theorem dX6_wearOf_70 : decode cX6_wearOf 70 = .ok (.iaload, 1) := by decide +kernel
theorem dX6_wearOf_71 : decode cX6_wearOf 71 = .ok (.ior, 1) := by decide +kernel
theorem dX6_wearOf_72 : decode cX6_wearOf 72 = .ok (.istore_n 3, 1) := by decide +kernel
theorem dX6_wearOf_73 : decode cX6_wearOf 73 = .ok (.iload 4, 2) := by decide +kernel
theorem dX6_wearOf_75 : decode cX6_wearOf 75 = .ok (.aload_n 0, 1) := by decide +kernel
theorem dX6_wearOf_76 : decode cX6_wearOf 76 = .ok (.getfield 24, 3) := by decide +kernel
theorem dX6_wearOf_79 : decode cX6_wearOf 79 = .ok (.getfield 83, 3) := by decide +kernel
theorem dX6_wearOf_82 : decode cX6_wearOf 82 = .ok (.iload 7, 2) := by decide +kernel
theorem dX6_wearOf_84 : decode cX6_wearOf 84 = .ok (.iaload, 1) := by decide +kernel
theorem dX6_wearOf_85 : decode cX6_wearOf 85 = .ok (.iconst 3, 1) := by decide +kernel
theorem dX6_wearOf_86 : decode cX6_wearOf 86 = .ok (.if_icmp .ne 7, 3) := by decide +kernel
theorem dX6_wearOf_89 : decode cX6_wearOf 89 = .ok (.iconst 1, 1) := by decide +kernel
theorem dX6_wearOf_90 : decode cX6_wearOf 90 = .ok (.goto 4, 3) := by decide +kernel
theorem dX6_wearOf_93 : decode cX6_wearOf 93 = .ok (.iconst 0, 1) := by decide +kernel
theorem dX6_wearOf_94 : decode cX6_wearOf 94 = .ok (.ior, 1) := by decide +kernel
theorem dX6_wearOf_95 : decode cX6_wearOf 95 = .ok (.istore 4, 2) := by decide +kernel
theorem dX6_wearOf_97 : decode cX6_wearOf 97 = .ok (.iinc 5 1, 3) := by decide +kernel
theorem dX6_wearOf_100 : decode cX6_wearOf 100 = .ok (.goto (-92), 3) := by decide +kernel
theorem dX6_wearOf_103 : decode cX6_wearOf 103 = .ok (.iconst 1, 1) := by decide +kernel
theorem dX6_wearOf_104 : decode cX6_wearOf 104 = .ok (.iload_n 3, 1) := by decide +kernel
theorem dX6_wearOf_105 : decode cX6_wearOf 105 = .ok (.iadd, 1) := by decide +kernel
theorem dX6_wearOf_106 : decode cX6_wearOf 106 = .ok (.iload 4, 2) := by decide +kernel
theorem dX6_wearOf_108 : decode cX6_wearOf 108 = .ok (.iadd, 1) := by decide +kernel
theorem dX6_wearOf_109 : decode cX6_wearOf 109 = .ok (.ireturn, 1) := by decide +kernel
theorem dX6_follow_0 : decode cX6_follow 0 = .ok (.iload_n 1, 1) := by decide +kernel
theorem dX6_follow_1 : decode cX6_follow 1 = .ok (.sipush 1000, 3) := by decide +kernel
theorem dX6_follow_4 : decode cX6_follow 4 = .ok (.idiv, 1) := by decide +kernel
theorem dX6_follow_5 : decode cX6_follow 5 = .ok (.istore_n 2, 1) := by decide +kernel
theorem dX6_follow_6 : decode cX6_follow 6 = .ok (.iload_n 1, 1) := by decide +kernel
theorem dX6_follow_7 : decode cX6_follow 7 = .ok (.bipush 10, 2) := by decide +kernel
theorem dX6_follow_9 : decode cX6_follow 9 = .ok (.idiv, 1) := by decide +kernel
theorem dX6_follow_10 : decode cX6_follow 10 = .ok (.bipush 10, 2) := by decide +kernel
theorem dX6_follow_12 : decode cX6_follow 12 = .ok (.irem, 1) := by decide +kernel
theorem dX6_follow_13 : decode cX6_follow 13 = .ok (.istore_n 3, 1) := by decide +kernel
theorem dX6_follow_14 : decode cX6_follow 14 = .ok (.iload_n 2, 1) := by decide +kernel
theorem dX6_follow_15 : decode cX6_follow 15 = .ok (.iconst 3, 1) := by decide +kernel
theorem dX6_follow_16 : decode cX6_follow 16 = .ok (.if_icmp .ne 15, 3) := by decide +kernel
theorem dX6_follow_19 : decode cX6_follow 19 = .ok (.aload_n 0, 1) := by decide +kernel
theorem dX6_follow_20 : decode cX6_follow 20 = .ok (.dup, 1) := by decide +kernel
theorem dX6_follow_21 : decode cX6_follow 21 = .ok (.getfield 28, 3) := by decide +kernel
theorem dX6_follow_24 : decode cX6_follow 24 = .ok (.iconst 1, 1) := by decide +kernel
theorem dX6_follow_25 : decode cX6_follow 25 = .ok (.iadd, 1) := by decide +kernel
theorem dX6_follow_26 : decode cX6_follow 26 = .ok (.putfield 28, 3) := by decide +kernel
theorem dX6_follow_29 : decode cX6_follow 29 = .ok (.iconst 1, 1) := by decide +kernel
theorem dX6_follow_30 : decode cX6_follow 30 = .ok (.ireturn, 1) := by decide +kernel
theorem dX6_follow_31 : decode cX6_follow 31 = .ok (.aload_n 0, 1) := by decide +kernel
theorem dX6_follow_32 : decode cX6_follow 32 = .ok (.getfield 24, 3) := by decide +kernel
theorem dX6_follow_35 : decode cX6_follow 35 = .ok (.iload_n 3, 1) := by decide +kernel
theorem dX6_follow_36 : decode cX6_follow 36 = .ok (.invokevirtual 88, 3) := by decide +kernel
theorem dX6_follow_39 : decode cX6_follow 39 = .ok (.ifCond .ne 5, 3) := by decide +kernel
theorem dX6_follow_42 : decode cX6_follow 42 = .ok (.iconst 0, 1) := by decide +kernel
theorem dX6_follow_43 : decode cX6_follow 43 = .ok (.ireturn, 1) := by decide +kernel
theorem dX6_follow_44 : decode cX6_follow 44 = .ok (.iload_n 2, 1) := by decide +kernel
theorem dX6_follow_45 : decode cX6_follow 45 = .ok (.ifCond .ne 44, 3) := by decide +kernel
theorem dX6_follow_48 : decode cX6_follow 48 = .ok (.iload_n 1, 1) := by decide +kernel
theorem dX6_follow_49 : decode cX6_follow 49 = .ok (.bipush 100, 2) := by decide +kernel
theorem dX6_follow_51 : decode cX6_follow 51 = .ok (.idiv, 1) := by decide +kernel
theorem dX6_follow_52 : decode cX6_follow 52 = .ok (.bipush 10, 2) := by decide +kernel
theorem dX6_follow_54 : decode cX6_follow 54 = .ok (.irem, 1) := by decide +kernel
theorem dX6_follow_55 : decode cX6_follow 55 = .ok (.istore 4, 2) := by decide +kernel
theorem dX6_follow_57 : decode cX6_follow 57 = .ok (.aload_n 0, 1) := by decide +kernel
theorem dX6_follow_58 : decode cX6_follow 58 = .ok (.getfield 24, 3) := by decide +kernel
theorem dX6_follow_61 : decode cX6_follow 61 = .ok (.iload 4, 2) := by decide +kernel
theorem dX6_follow_63 : decode cX6_follow 63 = .ok (.invokevirtual 92, 3) := by decide +kernel
theorem dX6_follow_66 : decode cX6_follow 66 = .ok (.ifCond .eq 21, 3) := by decide +kernel
theorem dX6_follow_69 : decode cX6_follow 69 = .ok (.aload_n 0, 1) := by decide +kernel
theorem dX6_follow_70 : decode cX6_follow 70 = .ok (.iload 4, 2) := by decide +kernel
theorem dX6_follow_72 : decode cX6_follow 72 = .ok (.iload_n 3, 1) := by decide +kernel
theorem dX6_follow_73 : decode cX6_follow 73 = .ok (.iload_n 1, 1) := by decide +kernel
theorem dX6_follow_74 : decode cX6_follow 74 = .ok (.bipush 10, 2) := by decide +kernel
theorem dX6_follow_76 : decode cX6_follow 76 = .ok (.irem, 1) := by decide +kernel
theorem dX6_follow_77 : decode cX6_follow 77 = .ok (.invokevirtual 95, 3) := by decide +kernel
theorem dX6_follow_80 : decode cX6_follow 80 = .ok (.ifCond .eq 7, 3) := by decide +kernel
theorem dX6_follow_83 : decode cX6_follow 83 = .ok (.iconst 1, 1) := by decide +kernel
theorem dX6_follow_84 : decode cX6_follow 84 = .ok (.goto 4, 3) := by decide +kernel
theorem dX6_follow_87 : decode cX6_follow 87 = .ok (.iconst 0, 1) := by decide +kernel
theorem dX6_follow_88 : decode cX6_follow 88 = .ok (.ireturn, 1) := by decide +kernel
theorem dX6_follow_89 : decode cX6_follow 89 = .ok (.aload_n 0, 1) := by decide +kernel
theorem dX6_follow_90 : decode cX6_follow 90 = .ok (.iload_n 3, 1) := by decide +kernel
theorem dX6_follow_91 : decode cX6_follow 91 = .ok (.iload_n 2, 1) := by decide +kernel
theorem dX6_follow_92 : decode cX6_follow 92 = .ok (.iconst 1, 1) := by decide +kernel
theorem dX6_follow_93 : decode cX6_follow 93 = .ok (.if_icmp .ne 8, 3) := by decide +kernel
theorem dX6_follow_96 : decode cX6_follow 96 = .ok (.bipush 63, 2) := by decide +kernel
theorem dX6_follow_98 : decode cX6_follow 98 = .ok (.goto 5, 3) := by decide +kernel
theorem dX6_follow_101 : decode cX6_follow 101 = .ok (.bipush 9, 2) := by decide +kernel
theorem dX6_follow_103 : decode cX6_follow 103 = .ok (.invokevirtual 98, 3) := by decide +kernel
theorem dX6_follow_106 : decode cX6_follow 106 = .ok (.ireturn, 1) := by decide +kernel
theorem dX6_writeIfCan_0 : decode cX6_writeIfCan 0 = .ok (.aload_n 0, 1) := by decide +kernel
theorem dX6_writeIfCan_1 : decode cX6_writeIfCan 1 = .ok (.iload_n 1, 1) := by decide +kernel
theorem dX6_writeIfCan_2 : decode cX6_writeIfCan 2 = .ok (.iload_n 2, 1) := by decide +kernel
theorem dX6_writeIfCan_3 : decode cX6_writeIfCan 3 = .ok (.iload_n 3, 1) := by decide +kernel
theorem dX6_writeIfCan_4 : decode cX6_writeIfCan 4 = .ok (.invokevirtual 64, 3) := by decide +kernel
theorem dX6_writeIfCan_7 : decode cX6_writeIfCan 7 = .ok (.ifCond .ne 5, 3) := by decide +kernel
theorem dX6_writeIfCan_10 : decode cX6_writeIfCan 10 = .ok (.iconst 0, 1) := by decide +kernel
theorem dX6_writeIfCan_11 : decode cX6_writeIfCan 11 = .ok (.ireturn, 1) := by decide +kernel
theorem dX6_writeIfCan_12 : decode cX6_writeIfCan 12 = .ok (.aload_n 0, 1) := by decide +kernel
theorem dX6_writeIfCan_13 : decode cX6_writeIfCan 13 = .ok (.iload_n 1, 1) := by decide +kernel
theorem dX6_writeIfCan_14 : decode cX6_writeIfCan 14 = .ok (.iload_n 2, 1) := by decide +kernel
theorem dX6_writeIfCan_15 : decode cX6_writeIfCan 15 = .ok (.iload_n 3, 1) := by decide +kernel
theorem dX6_writeIfCan_16 : decode cX6_writeIfCan 16 = .ok (.invokevirtual 102, 3) := by decide +kernel
theorem dX6_writeIfCan_19 : decode cX6_writeIfCan 19 = .ok (.iconst 1, 1) := by decide +kernel
theorem dX6_writeIfCan_20 : decode cX6_writeIfCan 20 = .ok (.ireturn, 1) := by decide +kernel
theorem dX6_liveByDraws_0 : decode cX6_liveByDraws 0 = .ok (.aload_n 1, 1) := by decide +kernel
theorem dX6_liveByDraws_1 : decode cX6_liveByDraws 1 = .ok (.aload_n 0, 1) := by decide +kernel
theorem dX6_liveByDraws_2 : decode cX6_liveByDraws 2 = .ok (.getfield 24, 3) := by decide +kernel
theorem dX6_liveByDraws_5 : decode cX6_liveByDraws 5 = .ok (.getfield 106, 3) := by decide +kernel
theorem dX6_liveByDraws_8 : decode cX6_liveByDraws 8 = .ok (.invokevirtual 109, 3) := by decide +kernel
theorem dX6_liveByDraws_11 : decode cX6_liveByDraws 11 = .ok (.istore_n 2, 1) := by decide +kernel
theorem dX6_liveByDraws_12 : decode cX6_liveByDraws 12 = .ok (.aload_n 1, 1) := by decide +kernel
theorem dX6_liveByDraws_13 : decode cX6_liveByDraws 13 = .ok (.aload_n 0, 1) := by decide +kernel
theorem dX6_liveByDraws_14 : decode cX6_liveByDraws 14 = .ok (.getfield 24, 3) := by decide +kernel
theorem dX6_liveByDraws_17 : decode cX6_liveByDraws 17 = .ok (.getfield 36, 3) := by decide +kernel
theorem dX6_liveByDraws_20 : decode cX6_liveByDraws 20 = .ok (.invokevirtual 109, 3) := by decide +kernel
theorem dX6_liveByDraws_23 : decode cX6_liveByDraws 23 = .ok (.istore_n 3, 1) := by decide +kernel
theorem dX6_liveByDraws_24 : decode cX6_liveByDraws 24 = .ok (.aload_n 1, 1) := by decide +kernel
theorem dX6_liveByDraws_25 : decode cX6_liveByDraws 25 = .ok (.bipush 6, 2) := by decide +kernel
theorem dX6_liveByDraws_27 : decode cX6_liveByDraws 27 = .ok (.invokevirtual 109, 3) := by decide +kernel
theorem dX6_liveByDraws_30 : decode cX6_liveByDraws 30 = .ok (.istore 4, 2) := by decide +kernel
theorem dX6_liveByDraws_32 : decode cX6_liveByDraws 32 = .ok (.aload_n 0, 1) := by decide +kernel
theorem dX6_liveByDraws_33 : decode cX6_liveByDraws 33 = .ok (.iload_n 2, 1) := by decide +kernel
theorem dX6_liveByDraws_34 : decode cX6_liveByDraws 34 = .ok (.iload_n 3, 1) := by decide +kernel
theorem dX6_liveByDraws_35 : decode cX6_liveByDraws 35 = .ok (.iload 4, 2) := by decide +kernel
theorem dX6_liveByDraws_37 : decode cX6_liveByDraws 37 = .ok (.invokevirtual 95, 3) := by decide +kernel
theorem dX6_liveByDraws_40 : decode cX6_liveByDraws 40 = .ok (.ifCond .eq 5, 3) := by decide +kernel
theorem dX6_liveByDraws_43 : decode cX6_liveByDraws 43 = .ok (.iconst 1, 1) := by decide +kernel
theorem dX6_liveByDraws_44 : decode cX6_liveByDraws 44 = .ok (.ireturn, 1) := by decide +kernel
theorem dX6_liveByDraws_45 : decode cX6_liveByDraws 45 = .ok (.aload_n 1, 1) := by decide +kernel
theorem dX6_liveByDraws_46 : decode cX6_liveByDraws 46 = .ok (.iconst 3, 1) := by decide +kernel
theorem dX6_liveByDraws_47 : decode cX6_liveByDraws 47 = .ok (.invokevirtual 109, 3) := by decide +kernel
theorem dX6_liveByDraws_50 : decode cX6_liveByDraws 50 = .ok (.istore 5, 2) := by decide +kernel
theorem dX6_liveByDraws_52 : decode cX6_liveByDraws 52 = .ok (.iload 5, 2) := by decide +kernel
theorem dX6_liveByDraws_54 : decode cX6_liveByDraws 54 = .ok (.iconst 2, 1) := by decide +kernel
theorem dX6_liveByDraws_55 : decode cX6_liveByDraws 55 = .ok (.if_icmp .ge 21, 3) := by decide +kernel
theorem dX6_liveByDraws_58 : decode cX6_liveByDraws 58 = .ok (.aload_n 0, 1) := by decide +kernel
theorem dX6_liveByDraws_59 : decode cX6_liveByDraws 59 = .ok (.iload_n 3, 1) := by decide +kernel
theorem dX6_liveByDraws_60 : decode cX6_liveByDraws 60 = .ok (.iload 5, 2) := by decide +kernel
theorem dX6_liveByDraws_62 : decode cX6_liveByDraws 62 = .ok (.ifCond .ne 8, 3) := by decide +kernel
theorem dX6_liveByDraws_65 : decode cX6_liveByDraws 65 = .ok (.bipush 63, 2) := by decide +kernel
theorem dX6_liveByDraws_67 : decode cX6_liveByDraws 67 = .ok (.goto 5, 3) := by decide +kernel
theorem dX6_liveByDraws_70 : decode cX6_liveByDraws 70 = .ok (.bipush 9, 2) := by decide +kernel
theorem dX6_liveByDraws_72 : decode cX6_liveByDraws 72 = .ok (.invokevirtual 98, 3) := by decide +kernel
theorem dX6_liveByDraws_75 : decode cX6_liveByDraws 75 = .ok (.pop, 1) := by decide +kernel
theorem dX6_liveByDraws_76 : decode cX6_liveByDraws 76 = .ok (.iconst 0, 1) := by decide +kernel
theorem dX6_liveByDraws_77 : decode cX6_liveByDraws 77 = .ok (.ireturn, 1) := by decide +kernel
theorem dX6_shown_0 : decode cX6_shown 0 = .ok (.bipush 6, 2) := by decide +kernel
theorem dX6_shown_2 : decode cX6_shown 2 = .ok (.iload_n 1, 1) := by decide +kernel
theorem dX6_shown_3 : decode cX6_shown 3 = .ok (.imul, 1) := by decide +kernel
theorem dX6_shown_4 : decode cX6_shown 4 = .ok (.iload_n 2, 1) := by decide +kernel
theorem dX6_shown_5 : decode cX6_shown 5 = .ok (.iadd, 1) := by decide +kernel
theorem dX6_shown_6 : decode cX6_shown 6 = .ok (.istore 4, 2) := by decide +kernel
theorem dX6_shown_8 : decode cX6_shown 8 = .ok (.aload_n 0, 1) := by decide +kernel
theorem dX6_shown_9 : decode cX6_shown 9 = .ok (.getfield 18, 3) := by decide +kernel
theorem dX6_shown_12 : decode cX6_shown 12 = .ok (.iload 4, 2) := by decide +kernel
theorem dX6_shown_14 : decode cX6_shown 14 = .ok (.iaload, 1) := by decide +kernel
theorem dX6_shown_15 : decode cX6_shown 15 = .ok (.istore 5, 2) := by decide +kernel
theorem dX6_shown_17 : decode cX6_shown 17 = .ok (.iload 5, 2) := by decide +kernel
theorem dX6_shown_19 : decode cX6_shown 19 = .ok (.ifCond .le 27, 3) := by decide +kernel
theorem dX6_shown_22 : decode cX6_shown 22 = .ok (.aload_n 0, 1) := by decide +kernel
theorem dX6_shown_23 : decode cX6_shown 23 = .ok (.getfield 15, 3) := by decide +kernel
theorem dX6_shown_26 : decode cX6_shown 26 = .ok (.iload_n 1, 1) := by decide +kernel
theorem dX6_shown_27 : decode cX6_shown 27 = .ok (.iaload, 1) := by decide +kernel
theorem dX6_shown_28 : decode cX6_shown 28 = .ok (.iload_n 2, 1) := by decide +kernel
theorem dX6_shown_29 : decode cX6_shown 29 = .ok (.ishr, 1) := by decide +kernel
theorem dX6_shown_30 : decode cX6_shown 30 = .ok (.iconst 1, 1) := by decide +kernel
theorem dX6_shown_31 : decode cX6_shown 31 = .ok (.iand, 1) := by decide +kernel
theorem dX6_shown_32 : decode cX6_shown 32 = .ok (.ifCond .eq 14, 3) := by decide +kernel
theorem dX6_shown_35 : decode cX6_shown 35 = .ok (.aload_n 0, 1) := by decide +kernel
theorem dX6_shown_36 : decode cX6_shown 36 = .ok (.iload 4, 2) := by decide +kernel
theorem dX6_shown_38 : decode cX6_shown 38 = .ok (.iload 5, 2) := by decide +kernel
