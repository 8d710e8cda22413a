theorem dX8_tensionAt_6 : decode cX8_tensionAt 6 = .ok (.aload_n 0, 1) := by decide +kernel
theorem dX8_tensionAt_7 : decode cX8_tensionAt 7 = .ok (.getfield 32, 3) := by decide +kernel
theorem dX8_tensionAt_10 : decode cX8_tensionAt 10 = .ok (.lcmp, 1) := by decide +kernel
theorem dX8_tensionAt_11 : decode cX8_tensionAt 11 = .ok (.ifCond .le 22, 3) := by decide +kernel
theorem dX8_tensionAt_14 : decode cX8_tensionAt 14 = .ok (.iload_n 1, 1) := by decide +kernel
theorem dX8_tensionAt_15 : decode cX8_tensionAt 15 = .ok (.i2l, 1) := by decide +kernel
theorem dX8_tensionAt_16 : decode cX8_tensionAt 16 = .ok (.lload_n 2, 1) := by decide +kernel
theorem dX8_tensionAt_17 : decode cX8_tensionAt 17 = .ok (.aload_n 0, 1) := by decide +kernel
theorem dX8_tensionAt_18 : decode cX8_tensionAt 18 = .ok (.getfield 32, 3) := by decide +kernel
theorem dX8_tensionAt_21 : decode cX8_tensionAt 21 = .ok (.lsub, 1) := by decide +kernel
theorem dX8_tensionAt_22 : decode cX8_tensionAt 22 = .ok (.lmul, 1) := by decide +kernel
theorem dX8_tensionAt_23 : decode cX8_tensionAt 23 = .ok (.aload_n 0, 1) := by decide +kernel
theorem dX8_tensionAt_24 : decode cX8_tensionAt 24 = .ok (.getfield 32, 3) := by decide +kernel
theorem dX8_tensionAt_27 : decode cX8_tensionAt 27 = .ok (.invokestatic 61, 3) := by decide +kernel
theorem dX8_tensionAt_30 : decode cX8_tensionAt 30 = .ok (.goto 4, 3) := by decide +kernel
theorem dX8_tensionAt_33 : decode cX8_tensionAt 33 = .ok (.lconst 0, 1) := by decide +kernel
theorem dX8_tensionAt_34 : decode cX8_tensionAt 34 = .ok (.lreturn, 1) := by decide +kernel
theorem dX9_init_0 : decode cX9_init 0 = .ok (.aload_n 0, 1) := by decide +kernel
theorem dX9_init_1 : decode cX9_init 1 = .ok (.invokespecial 3, 3) := by decide +kernel
theorem dX9_init_4 : decode cX9_init 4 = .ok (.aload_n 0, 1) := by decide +kernel
theorem dX9_init_5 : decode cX9_init 5 = .ok (.iconst 4, 1) := by decide +kernel
theorem dX9_init_6 : decode cX9_init 6 = .ok (.newarray .int, 2) := by decide +kernel
theorem dX9_init_8 : decode cX9_init 8 = .ok (.putfield 9, 3) := by decide +kernel
theorem dX9_init_11 : decode cX9_init 11 = .ok (.return_, 1) := by decide +kernel
theorem dX9_begin_0 : decode cX9_begin 0 = .ok (.aload_n 0, 1) := by decide +kernel
theorem dX9_begin_1 : decode cX9_begin 1 = .ok (.iconst 0, 1) := by decide +kernel
theorem dX9_begin_2 : decode cX9_begin 2 = .ok (.putfield 15, 3) := by decide +kernel
theorem dX9_begin_5 : decode cX9_begin 5 = .ok (.aload_n 0, 1) := by decide +kernel
theorem dX9_begin_6 : decode cX9_begin 6 = .ok (.lconst 0, 1) := by decide +kernel
theorem dX9_begin_7 : decode cX9_begin 7 = .ok (.putfield 19, 3) := by decide +kernel
theorem dX9_begin_10 : decode cX9_begin 10 = .ok (.return_, 1) := by decide +kernel
theorem dX9_copyFrom_0 : decode cX9_copyFrom 0 = .ok (.aload_n 1, 1) := by decide +kernel
theorem dX9_copyFrom_1 : decode cX9_copyFrom 1 = .ok (.getfield 9, 3) := by decide +kernel
theorem dX9_copyFrom_4 : decode cX9_copyFrom 4 = .ok (.iconst 0, 1) := by decide +kernel
theorem dX9_copyFrom_5 : decode cX9_copyFrom 5 = .ok (.aload_n 0, 1) := by decide +kernel
theorem dX9_copyFrom_6 : decode cX9_copyFrom 6 = .ok (.getfield 9, 3) := by decide +kernel
theorem dX9_copyFrom_9 : decode cX9_copyFrom 9 = .ok (.iconst 0, 1) := by decide +kernel
theorem dX9_copyFrom_10 : decode cX9_copyFrom 10 = .ok (.aload_n 0, 1) := by decide +kernel
theorem dX9_copyFrom_11 : decode cX9_copyFrom 11 = .ok (.getfield 9, 3) := by decide +kernel
theorem dX9_copyFrom_14 : decode cX9_copyFrom 14 = .ok (.arraylength, 1) := by decide +kernel
theorem dX9_copyFrom_15 : decode cX9_copyFrom 15 = .ok (.invokestatic 23, 3) := by decide +kernel
theorem dX9_copyFrom_18 : decode cX9_copyFrom 18 = .ok (.aload_n 0, 1) := by decide +kernel
theorem dX9_copyFrom_19 : decode cX9_copyFrom 19 = .ok (.aload_n 1, 1) := by decide +kernel
theorem dX9_copyFrom_20 : decode cX9_copyFrom 20 = .ok (.getfield 15, 3) := by decide +kernel
theorem dX9_copyFrom_23 : decode cX9_copyFrom 23 = .ok (.putfield 15, 3) := by decide +kernel
theorem dX9_copyFrom_26 : decode cX9_copyFrom 26 = .ok (.aload_n 0, 1) := by decide +kernel
theorem dX9_copyFrom_27 : decode cX9_copyFrom 27 = .ok (.aload_n 1, 1) := by decide +kernel
theorem dX9_copyFrom_28 : decode cX9_copyFrom 28 = .ok (.getfield 19, 3) := by decide +kernel
theorem dX9_copyFrom_31 : decode cX9_copyFrom 31 = .ok (.putfield 19, 3) := by decide +kernel
theorem dX9_copyFrom_34 : decode cX9_copyFrom 34 = .ok (.return_, 1) := by decide +kernel
theorem dX9_put_0 : decode cX9_put 0 = .ok (.aload_n 0, 1) := by decide +kernel
theorem dX9_put_1 : decode cX9_put 1 = .ok (.getfield 15, 3) := by decide +kernel
theorem dX9_put_4 : decode cX9_put 4 = .ok (.aload_n 0, 1) := by decide +kernel
theorem dX9_put_5 : decode cX9_put 5 = .ok (.getfield 9, 3) := by decide +kernel
theorem dX9_put_8 : decode cX9_put 8 = .ok (.arraylength, 1) := by decide +kernel
theorem dX9_put_9 : decode cX9_put 9 = .ok (.if_icmp .lt 6, 3) := by decide +kernel
theorem dX9_put_12 : decode cX9_put 12 = .ok (.ldc 29, 2) := by decide +kernel
theorem dX9_put_14 : decode cX9_put 14 = .ok (.ireturn, 1) := by decide +kernel
theorem dX9_put_15 : decode cX9_put 15 = .ok (.aload_n 0, 1) := by decide +kernel
theorem dX9_put_16 : decode cX9_put 16 = .ok (.getfield 19, 3) := by decide +kernel
theorem dX9_put_19 : decode cX9_put 19 = .ok (.lconst 0, 1) := by decide +kernel
theorem dX9_put_20 : decode cX9_put 20 = .ok (.lcmp, 1) := by decide +kernel
theorem dX9_put_21 : decode cX9_put 21 = .ok (.ifCond .ne 18, 3) := by decide +kernel
theorem dX9_put_24 : decode cX9_put 24 = .ok (.aload_n 0, 1) := by decide +kernel
theorem dX9_put_25 : decode cX9_put 25 = .ok (.getfield 15, 3) := by decide +kernel
theorem dX9_put_28 : decode cX9_put 28 = .ok (.ifCond .ne 11, 3) := by decide +kernel
theorem dX9_put_31 : decode cX9_put 31 = .ok (.aload_n 0, 1) := by decide +kernel
theorem dX9_put_32 : decode cX9_put 32 = .ok (.iload_n 1, 1) := by decide +kernel
theorem dX9_put_33 : decode cX9_put 33 = .ok (.i2l, 1) := by decide +kernel
theorem dX9_put_34 : decode cX9_put 34 = .ok (.putfield 19, 3) := by decide +kernel
theorem dX9_put_37 : decode cX9_put 37 = .ok (.iconst 0, 1) := by decide +kernel
theorem dX9_put_38 : decode cX9_put 38 = .ok (.ireturn, 1) := by decide +kernel
theorem dX9_put_39 : decode cX9_put 39 = .ok (.aload_n 0, 1) := by decide +kernel
theorem dX9_put_40 : decode cX9_put 40 = .ok (.getfield 9, 3) := by decide +kernel
theorem dX9_put_43 : decode cX9_put 43 = .ok (.aload_n 0, 1) := by decide +kernel
theorem dX9_put_44 : decode cX9_put 44 = .ok (.getfield 15, 3) := by decide +kernel
theorem dX9_put_47 : decode cX9_put 47 = .ok (.iload_n 1, 1) := by decide +kernel
theorem dX9_put_48 : decode cX9_put 48 = .ok (.iastore, 1) := by decide +kernel
theorem dX9_put_49 : decode cX9_put 49 = .ok (.aload_n 0, 1) := by decide +kernel
theorem dX9_put_50 : decode cX9_put 50 = .ok (.dup, 1) := by decide +kernel
theorem dX9_put_51 : decode cX9_put 51 = .ok (.getfield 15, 3) := by decide +kernel
theorem dX9_put_54 : decode cX9_put 54 = .ok (.iconst 1, 1) := by decide +kernel
theorem dX9_put_55 : decode cX9_put 55 = .ok (.iadd, 1) := by decide +kernel
theorem dX9_put_56 : decode cX9_put 56 = .ok (.putfield 15, 3) := by decide +kernel
theorem dX9_put_59 : decode cX9_put 59 = .ok (.aload_n 0, 1) := by decide +kernel
theorem dX9_put_60 : decode cX9_put 60 = .ok (.getfield 15, 3) := by decide +kernel
theorem dX9_put_63 : decode cX9_put 63 = .ok (.ireturn, 1) := by decide +kernel
theorem dX9_takeNext_0 : decode cX9_takeNext 0 = .ok (.aload_n 0, 1) := by decide +kernel
theorem dX9_takeNext_1 : decode cX9_takeNext 1 = .ok (.getfield 15, 3) := by decide +kernel
theorem dX9_takeNext_4 : decode cX9_takeNext 4 = .ok (.ifCond .ne 4, 3) := by decide +kernel
theorem dX9_takeNext_7 : decode cX9_takeNext 7 = .ok (.return_, 1) := by decide +kernel
theorem dX9_takeNext_8 : decode cX9_takeNext 8 = .ok (.aload_n 0, 1) := by decide +kernel
theorem dX9_takeNext_9 : decode cX9_takeNext 9 = .ok (.dup, 1) := by decide +kernel
theorem dX9_takeNext_10 : decode cX9_takeNext 10 = .ok (.getfield 19, 3) := by decide +kernel
theorem dX9_takeNext_13 : decode cX9_takeNext 13 = .ok (.aload_n 0, 1) := by decide +kernel
theorem dX9_takeNext_14 : decode cX9_takeNext 14 = .ok (.getfield 9, 3) := by decide +kernel
theorem dX9_takeNext_17 : decode cX9_takeNext 17 = .ok (.iconst 0, 1) := by decide +kernel
theorem dX9_takeNext_18 : decode cX9_takeNext 18 = .ok (.iaload, 1) := by decide +kernel
theorem dX9_takeNext_19 : decode cX9_takeNext 19 = .ok (.i2l, 1) := by decide +kernel
theorem dX9_takeNext_20 : decode cX9_takeNext 20 = .ok (.ladd, 1) := by decide +kernel
theorem dX9_takeNext_21 : decode cX9_takeNext 21 = .ok (.putfield 19, 3) := by decide +kernel
theorem dX9_takeNext_24 : decode cX9_takeNext 24 = .ok (.aload_n 0, 1) := by decide +kernel
theorem dX9_takeNext_25 : decode cX9_takeNext 25 = .ok (.dup, 1) := by decide +kernel
theorem dX9_takeNext_26 : decode cX9_takeNext 26 = .ok (.getfield 15, 3) := by decide +kernel
theorem dX9_takeNext_29 : decode cX9_takeNext 29 = .ok (.iconst 1, 1) := by decide +kernel
theorem dX9_takeNext_30 : decode cX9_takeNext 30 = .ok (.isub, 1) := by decide +kernel
theorem dX9_takeNext_31 : decode cX9_takeNext 31 = .ok (.putfield 15, 3) := by decide +kernel
theorem dX9_takeNext_34 : decode cX9_takeNext 34 = .ok (.aload_n 0, 1) := by decide +kernel
theorem dX9_takeNext_35 : decode cX9_takeNext 35 = .ok (.getfield 9, 3) := by decide +kernel
theorem dX9_takeNext_38 : decode cX9_takeNext 38 = .ok (.iconst 1, 1) := by decide +kernel
theorem dX9_takeNext_39 : decode cX9_takeNext 39 = .ok (.aload_n 0, 1) := by decide +kernel
theorem dX9_takeNext_40 : decode cX9_takeNext 40 = .ok (.getfield 9, 3) := by decide +kernel
theorem dX9_takeNext_43 : decode cX9_takeNext 43 = .ok (.iconst 0, 1) := by decide +kernel
theorem dX9_takeNext_44 : decode cX9_takeNext 44 = .ok (.aload_n 0, 1) := by decide +kernel
theorem dX9_takeNext_45 : decode cX9_takeNext 45 = .ok (.getfield 15, 3) := by decide +kernel
theorem dX9_takeNext_48 : decode cX9_takeNext 48 = .ok (.invokestatic 23, 3) := by decide +kernel
theorem dX9_takeNext_51 : decode cX9_takeNext 51 = .ok (.return_, 1) := by decide +kernel
theorem dX9_isSplicePending_0 : decode cX9_isSplicePending 0 = .ok (.aload_n 0, 1) := by decide +kernel
theorem dX9_isSplicePending_1 : decode cX9_isSplicePending 1 = .ok (.getfield 19, 3) := by decide +kernel
theorem dX9_isSplicePending_4 : decode cX9_isSplicePending 4 = .ok (.iload_n 1, 1) := by decide +kernel
theorem dX9_isSplicePending_5 : decode cX9_isSplicePending 5 = .ok (.i2l, 1) := by decide +kernel
theorem dX9_isSplicePending_6 : decode cX9_isSplicePending 6 = .ok (.lcmp, 1) := by decide +kernel
theorem dX9_isSplicePending_7 : decode cX9_isSplicePending 7 = .ok (.ifCond .gt 14, 3) := by decide +kernel
theorem dX9_isSplicePending_10 : decode cX9_isSplicePending 10 = .ok (.aload_n 0, 1) := by decide +kernel
theorem dX9_isSplicePending_11 : decode cX9_isSplicePending 11 = .ok (.getfield 15, 3) := by decide +kernel
theorem dX9_isSplicePending_14 : decode cX9_isSplicePending 14 = .ok (.ifCond .le 7, 3) := by decide +kernel
theorem dX9_isSplicePending_17 : decode cX9_isSplicePending 17 = .ok (.iconst 1, 1) := by decide +kernel
theorem dX9_isSplicePending_18 : decode cX9_isSplicePending 18 = .ok (.goto 4, 3) := by decide +kernel
theorem dX9_isSplicePending_21 : decode cX9_isSplicePending 21 = .ok (.iconst 0, 1) := by decide +kernel
theorem dX9_isSplicePending_22 : decode cX9_isSplicePending 22 = .ok (.ireturn, 1) := by decide +kernel
theorem dX9_queuedLength_0 : decode cX9_queuedLength 0 = .ok (.lconst 0, 1) := by decide +kernel
theorem dX9_queuedLength_1 : decode cX9_queuedLength 1 = .ok (.lstore_n 1, 1) := by decide +kernel
theorem dX9_queuedLength_2 : decode cX9_queuedLength 2 = .ok (.iconst 0, 1) := by decide +kernel
theorem dX9_queuedLength_3 : decode cX9_queuedLength 3 = .ok (.istore_n 3, 1) := by decide +kernel
theorem dX9_queuedLength_4 : decode cX9_queuedLength 4 = .ok (.iload_n 3, 1) := by decide +kernel
theorem dX9_queuedLength_5 : decode cX9_queuedLength 5 = .ok (.aload_n 0, 1) := by decide +kernel
theorem dX9_queuedLength_6 : decode cX9_queuedLength 6 = .ok (.getfield 15, 3) := by decide +kernel
theorem dX9_queuedLength_9 : decode cX9_queuedLength 9 = .ok (.if_icmp .ge 19, 3) := by decide +kernel
theorem dX9_queuedLength_12 : decode cX9_queuedLength 12 = .ok (.lload_n 1, 1) := by decide +kernel
theorem dX9_queuedLength_13 : decode cX9_queuedLength 13 = .ok (.aload_n 0, 1) := by decide +kernel
theorem dX9_queuedLength_14 : decode cX9_queuedLength 14 = .ok (.getfield 9, 3) := by decide +kernel
theorem dX9_queuedLength_17 : decode cX9_queuedLength 17 = .ok (.iload_n 3, 1) := by decide +kernel
theorem dX9_queuedLength_18 : decode cX9_queuedLength 18 = .ok (.iaload, 1) := by decide +kernel
theorem dX9_queuedLength_19 : decode cX9_queuedLength 19 = .ok (.i2l, 1) := by decide +kernel
theorem dX9_queuedLength_20 : decode cX9_queuedLength 20 = .ok (.ladd, 1) := by decide +kernel
theorem dX9_queuedLength_21 : decode cX9_queuedLength 21 = .ok (.lstore_n 1, 1) := by decide +kernel
theorem dX9_queuedLength_22 : decode cX9_queuedLength 22 = .ok (.iinc 3 1, 3) := by decide +kernel
theorem dX9_queuedLength_25 : decode cX9_queuedLength 25 = .ok (.goto (-21), 3) := by decide +kernel
theorem dX9_queuedLength_28 : decode cX9_queuedLength 28 = .ok (.lload_n 1, 1) := by decide +kernel
theorem dX9_queuedLength_29 : decode cX9_queuedLength 29 = .ok (.lreturn, 1) := by decide +kernel
theorem dX10_init_0 : decode cX10_init 0 = .ok (.aload_n 0, 1) := by decide +kernel
theorem dX10_init_1 : decode cX10_init 1 = .ok (.invokespecial 3, 3) := by decide +kernel
theorem dX10_init_4 : decode cX10_init 4 = .ok (.return_, 1) := by decide +kernel
theorem dX10_begin_0 : decode cX10_begin 0 = .ok (.aload_n 0, 1) := by decide +kernel
theorem dX10_begin_1 : decode cX10_begin 1 = .ok (.ldc 9, 2) := by decide +kernel
theorem dX10_begin_3 : decode cX10_begin 3 = .ok (.putfield 10, 3) := by decide +kernel
theorem dX10_begin_6 : decode cX10_begin 6 = .ok (.aload_n 0, 1) := by decide +kernel
theorem dX10_begin_7 : decode cX10_begin 7 = .ok (.iconst 0, 1) := by decide +kernel
theorem dX10_begin_8 : decode cX10_begin 8 = .ok (.putfield 16, 3) := by decide +kernel
theorem dX10_begin_11 : decode cX10_begin 11 = .ok (.aload_n 0, 1) := by decide +kernel
theorem dX10_begin_12 : decode cX10_begin 12 = .ok (.ldc 9, 2) := by decide +kernel
theorem dX10_begin_14 : decode cX10_begin 14 = .ok (.putfield 19, 3) := by decide +kernel
theorem dX10_begin_17 : decode cX10_begin 17 = .ok (.aload_n 0, 1) := by decide +kernel
theorem dX10_begin_18 : decode cX10_begin 18 = .ok (.sipush 500, 3) := by decide +kernel
theorem dX10_begin_21 : decode cX10_begin 21 = .ok (.putfield 22, 3) := by decide +kernel
theorem dX10_begin_24 : decode cX10_begin 24 = .ok (.return_, 1) := by decide +kernel
theorem dX10_copyFrom_0 : decode cX10_copyFrom 0 = .ok (.aload_n 0, 1) := by decide +kernel
theorem dX10_copyFrom_1 : decode cX10_copyFrom 1 = .ok (.aload_n 1, 1) := by decide +kernel
theorem dX10_copyFrom_2 : decode cX10_copyFrom 2 = .ok (.getfield 10, 3) := by decide +kernel
theorem dX10_copyFrom_5 : decode cX10_copyFrom 5 = .ok (.putfield 10, 3) := by decide +kernel
theorem dX10_copyFrom_8 : decode cX10_copyFrom 8 = .ok (.aload_n 0, 1) := by decide +kernel
theorem dX10_copyFrom_9 : decode cX10_copyFrom 9 = .ok (.aload_n 1, 1) := by decide +kernel
theorem dX10_copyFrom_10 : decode cX10_copyFrom 10 = .ok (.getfield 16, 3) := by decide +kernel
theorem dX10_copyFrom_13 : decode cX10_copyFrom 13 = .ok (.putfield 16, 3) := by decide +kernel
theorem dX10_copyFrom_16 : decode cX10_copyFrom 16 = .ok (.aload_n 0, 1) := by decide +kernel
theorem dX10_copyFrom_17 : decode cX10_copyFrom 17 = .ok (.aload_n 1, 1) := by decide +kernel
theorem dX10_copyFrom_18 : decode cX10_copyFrom 18 = .ok (.getfield 19, 3) := by decide +kernel
theorem dX10_copyFrom_21 : decode cX10_copyFrom 21 = .ok (.putfield 19, 3) := by decide +kernel
theorem dX10_copyFrom_24 : decode cX10_copyFrom 24 = .ok (.aload_n 0, 1) := by decide +kernel
theorem dX10_copyFrom_25 : decode cX10_copyFrom 25 = .ok (.aload_n 1, 1) := by decide +kernel
theorem dX10_copyFrom_26 : decode cX10_copyFrom 26 = .ok (.getfield 22, 3) := by decide +kernel
theorem dX10_copyFrom_29 : decode cX10_copyFrom 29 = .ok (.putfield 22, 3) := by decide +kernel
theorem dX10_copyFrom_32 : decode cX10_copyFrom 32 = .ok (.return_, 1) := by decide +kernel
theorem dX10_changeStiffness_0 : decode cX10_changeStiffness 0 = .ok (.aload_n 0, 1) := by decide +kernel
theorem dX10_changeStiffness_1 : decode cX10_changeStiffness 1 = .ok (.getfield 10, 3) := by decide +kernel
theorem dX10_changeStiffness_4 : decode cX10_changeStiffness 4 = .ok (.iload_n 1, 1) := by decide +kernel
theorem dX10_changeStiffness_5 : decode cX10_changeStiffness 5 = .ok (.if_icmp .ne 11, 3) := by decide +kernel
theorem dX10_changeStiffness_8 : decode cX10_changeStiffness 8 = .ok (.aload_n 0, 1) := by decide +kernel
theorem dX10_changeStiffness_9 : decode cX10_changeStiffness 9 = .ok (.getfield 16, 3) := by decide +kernel
theorem dX10_changeStiffness_12 : decode cX10_changeStiffness 12 = .ok (.iload_n 2, 1) := by decide +kernel
theorem dX10_changeStiffness_13 : decode cX10_changeStiffness 13 = .ok (.if_icmp .eq 7, 3) := by decide +kernel
theorem dX10_changeStiffness_16 : decode cX10_changeStiffness 16 = .ok (.iconst 1, 1) := by decide +kernel
theorem dX10_changeStiffness_17 : decode cX10_changeStiffness 17 = .ok (.goto 4, 3) := by decide +kernel
theorem dX10_changeStiffness_20 : decode cX10_changeStiffness 20 = .ok (.iconst 0, 1) := by decide +kernel
theorem dX10_changeStiffness_21 : decode cX10_changeStiffness 21 = .ok (.istore_n 3, 1) := by decide +kernel
theorem dX10_changeStiffness_22 : decode cX10_changeStiffness 22 = .ok (.aload_n 0, 1) := by decide +kernel
theorem dX10_changeStiffness_23 : decode cX10_changeStiffness 23 = .ok (.iload_n 1, 1) := by decide +kernel
theorem dX10_changeStiffness_24 : decode cX10_changeStiffness 24 = .ok (.putfield 10, 3) := by decide +kernel
theorem dX10_changeStiffness_27 : decode cX10_changeStiffness 27 = .ok (.aload_n 0, 1) := by decide +kernel
theorem dX10_changeStiffness_28 : decode cX10_changeStiffness 28 = .ok (.iload_n 2, 1) := by decide +kernel
theorem dX10_changeStiffness_29 : decode cX10_changeStiffness 29 = .ok (.putfield 16, 3) := by decide +kernel
theorem dX10_changeStiffness_32 : decode cX10_changeStiffness 32 = .ok (.iload_n 3, 1) := by decide +kernel
theorem dX10_changeStiffness_33 : decode cX10_changeStiffness 33 = .ok (.ireturn, 1) := by decide +kernel
theorem dX10_changeStrength_0 : decode cX10_changeStrength 0 = .ok (.aload_n 0, 1) := by decide +kernel
theorem dX10_changeStrength_1 : decode cX10_changeStrength 1 = .ok (.getfield 19, 3) := by decide +kernel
theorem dX10_changeStrength_4 : decode cX10_changeStrength 4 = .ok (.iload_n 1, 1) := by decide +kernel
theorem dX10_changeStrength_5 : decode cX10_changeStrength 5 = .ok (.if_icmp .ne 11, 3) := by decide +kernel
theorem dX10_changeStrength_8 : decode cX10_changeStrength 8 = .ok (.aload_n 0, 1) := by decide +kernel
theorem dX10_changeStrength_9 : decode cX10_changeStrength 9 = .ok (.getfield 22, 3) := by decide +kernel
theorem dX10_changeStrength_12 : decode cX10_changeStrength 12 = .ok (.iload_n 2, 1) := by decide +kernel
theorem dX10_changeStrength_13 : decode cX10_changeStrength 13 = .ok (.if_icmp .eq 7, 3) := by decide +kernel
theorem dX10_changeStrength_16 : decode cX10_changeStrength 16 = .ok (.iconst 1, 1) := by decide +kernel
theorem dX10_changeStrength_17 : decode cX10_changeStrength 17 = .ok (.goto 4, 3) := by decide +kernel
theorem dX10_changeStrength_20 : decode cX10_changeStrength 20 = .ok (.iconst 0, 1) := by decide +kernel
theorem dX10_changeStrength_21 : decode cX10_changeStrength 21 = .ok (.istore_n 3, 1) := by decide +kernel
theorem dX10_changeStrength_22 : decode cX10_changeStrength 22 = .ok (.aload_n 0, 1) := by decide +kernel
theorem dX10_changeStrength_23 : decode cX10_changeStrength 23 = .ok (.iload_n 1, 1) := by decide +kernel
theorem dX10_changeStrength_24 : decode cX10_changeStrength 24 = .ok (.putfield 19, 3) := by decide +kernel
theorem dX10_changeStrength_27 : decode cX10_changeStrength 27 = .ok (.aload_n 0, 1) := by decide +kernel
theorem dX10_changeStrength_28 : decode cX10_changeStrength 28 = .ok (.iload_n 2, 1) := by decide +kernel
theorem dX10_changeStrength_29 : decode cX10_changeStrength 29 = .ok (.putfield 22, 3) := by decide +kernel
theorem dX10_changeStrength_32 : decode cX10_changeStrength 32 = .ok (.iload_n 3, 1) := by decide +kernel
theorem dX10_changeStrength_33 : decode cX10_changeStrength 33 = .ok (.ireturn, 1) := by decide +kernel
theorem dX10_strengthWith_0 : decode cX10_strengthWith 0 = .ok (.iload_n 1, 1) := by decide +kernel
theorem dX10_strengthWith_1 : decode cX10_strengthWith 1 = .ok (.ifCond .ne 11, 3) := by decide +kernel
theorem dX10_strengthWith_4 : decode cX10_strengthWith 4 = .ok (.aload_n 0, 1) := by decide +kernel
theorem dX10_strengthWith_5 : decode cX10_strengthWith 5 = .ok (.getfield 19, 3) := by decide +kernel
theorem dX10_strengthWith_8 : decode cX10_strengthWith 8 = .ok (.i2l, 1) := by decide +kernel
theorem dX10_strengthWith_9 : decode cX10_strengthWith 9 = .ok (.goto 20, 3) := by decide +kernel
theorem dX10_strengthWith_12 : decode cX10_strengthWith 12 = .ok (.aload_n 0, 1) := by decide +kernel
theorem dX10_strengthWith_13 : decode cX10_strengthWith 13 = .ok (.getfield 19, 3) := by decide +kernel
theorem dX10_strengthWith_16 : decode cX10_strengthWith 16 = .ok (.i2l, 1) := by decide +kernel
theorem dX10_strengthWith_17 : decode cX10_strengthWith 17 = .ok (.aload_n 0, 1) := by decide +kernel
theorem dX10_strengthWith_18 : decode cX10_strengthWith 18 = .ok (.getfield 22, 3) := by decide +kernel
theorem dX10_strengthWith_21 : decode cX10_strengthWith 21 = .ok (.i2l, 1) := by decide +kernel
theorem dX10_strengthWith_22 : decode cX10_strengthWith 22 = .ok (.lmul, 1) := by decide +kernel
theorem dX10_strengthWith_23 : decode cX10_strengthWith 23 = .ok (.ldc2_w 25, 3) := by decide +kernel
theorem dX10_strengthWith_26 : decode cX10_strengthWith 26 = .ok (.invokestatic 27, 3) := by decide +kernel
theorem dX10_strengthWith_29 : decode cX10_strengthWith 29 = .ok (.lreturn, 1) := by decide +kernel
theorem dX10_steadyTensionAt_0 : decode cX10_steadyTensionAt 0 = .ok (.aload_n 0, 1) := by decide +kernel
theorem dX10_steadyTensionAt_1 : decode cX10_steadyTensionAt 1 = .ok (.getfield 10, 3) := by decide +kernel
theorem dX10_steadyTensionAt_4 : decode cX10_steadyTensionAt 4 = .ok (.i2l, 1) := by decide +kernel
theorem dX10_steadyTensionAt_5 : decode cX10_steadyTensionAt 5 = .ok (.aload_n 0, 1) := by decide +kernel
theorem dX10_steadyTensionAt_6 : decode cX10_steadyTensionAt 6 = .ok (.getfield 16, 3) := by decide +kernel
theorem dX10_steadyTensionAt_9 : decode cX10_steadyTensionAt 9 = .ok (.i2l, 1) := by decide +kernel
theorem dX10_steadyTensionAt_10 : decode cX10_steadyTensionAt 10 = .ok (.ladd, 1) := by decide +kernel
theorem dX10_steadyTensionAt_11 : decode cX10_steadyTensionAt 11 = .ok (.lload_n 1, 1) := by decide +kernel
theorem dX10_steadyTensionAt_12 : decode cX10_steadyTensionAt 12 = .ok (.lmul, 1) := by decide +kernel
theorem dX10_steadyTensionAt_13 : decode cX10_steadyTensionAt 13 = .ok (.aload_n 0, 1) := by decide +kernel
theorem dX10_steadyTensionAt_14 : decode cX10_steadyTensionAt 14 = .ok (.getfield 10, 3) := by decide +kernel
theorem dX10_steadyTensionAt_17 : decode cX10_steadyTensionAt 17 = .ok (.i2l, 1) := by decide +kernel
theorem dX10_steadyTensionAt_18 : decode cX10_steadyTensionAt 18 = .ok (.lload_n 3, 1) := by decide +kernel
theorem dX10_steadyTensionAt_19 : decode cX10_steadyTensionAt 19 = .ok (.lmul, 1) := by decide +kernel
theorem dX10_steadyTensionAt_20 : decode cX10_steadyTensionAt 20 = .ok (.lsub, 1) := by decide +kernel
theorem dX10_steadyTensionAt_21 : decode cX10_steadyTensionAt 21 = .ok (.lstore 5, 2) := by decide +kernel
theorem dX10_steadyTensionAt_23 : decode cX10_steadyTensionAt 23 = .ok (.lconst 0, 1) := by decide +kernel
theorem dX10_steadyTensionAt_24 : decode cX10_steadyTensionAt 24 = .ok (.lload 5, 2) := by decide +kernel
theorem dX10_steadyTensionAt_26 : decode cX10_steadyTensionAt 26 = .ok (.lload_n 3, 1) := by decide +kernel
theorem dX10_steadyTensionAt_27 : decode cX10_steadyTensionAt 27 = .ok (.invokestatic 33, 3) := by decide +kernel
theorem dX10_steadyTensionAt_30 : decode cX10_steadyTensionAt 30 = .ok (.invokestatic 36, 3) := by decide +kernel
theorem dX10_steadyTensionAt_33 : decode cX10_steadyTensionAt 33 = .ok (.lreturn, 1) := by decide +kernel
theorem dX10_steadyGap_0 : decode cX10_steadyGap 0 = .ok (.aload_n 0, 1) := by decide +kernel
theorem dX10_steadyGap_1 : decode cX10_steadyGap 1 = .ok (.lload_n 2, 1) := by decide +kernel
theorem dX10_steadyGap_2 : decode cX10_steadyGap 2 = .ok (.lload 4, 2) := by decide +kernel
theorem dX10_steadyGap_4 : decode cX10_steadyGap 4 = .ok (.invokevirtual 39, 3) := by decide +kernel
theorem dX10_steadyGap_7 : decode cX10_steadyGap 7 = .ok (.iload_n 1, 1) := by decide +kernel
theorem dX10_steadyGap_8 : decode cX10_steadyGap 8 = .ok (.i2l, 1) := by decide +kernel
theorem dX10_steadyGap_9 : decode cX10_steadyGap 9 = .ok (.lsub, 1) := by decide +kernel
theorem dX10_steadyGap_10 : decode cX10_steadyGap 10 = .ok (.invokestatic 42, 3) := by decide +kernel
theorem dX10_steadyGap_13 : decode cX10_steadyGap 13 = .ok (.lreturn, 1) := by decide +kernel
theorem dX11_init_0 : decode cX11_init 0 = .ok (.aload_n 0, 1) := by decide +kernel
theorem dX11_init_1 : decode cX11_init 1 = .ok (.invokespecial 3, 3) := by decide +kernel
theorem dX11_init_4 : decode cX11_init 4 = .ok (.aload_n 0, 1) := by decide +kernel
theorem dX11_init_5 : decode cX11_init 5 = .ok (.new 9, 3) := by decide +kernel
theorem dX11_init_8 : decode cX11_init 8 = .ok (.dup, 1) := by decide +kernel
theorem dX11_init_9 : decode cX11_init 9 = .ok (.invokespecial 11, 3) := by decide +kernel
theorem dX11_init_12 : decode cX11_init 12 = .ok (.putfield 12, 3) := by decide +kernel
theorem dX11_init_15 : decode cX11_init 15 = .ok (.aload_n 0, 1) := by decide +kernel
theorem dX11_init_16 : decode cX11_init 16 = .ok (.new 9, 3) := by decide +kernel
theorem dX11_init_19 : decode cX11_init 19 = .ok (.dup, 1) := by decide +kernel
theorem dX11_init_20 : decode cX11_init 20 = .ok (.invokespecial 11, 3) := by decide +kernel
theorem dX11_init_23 : decode cX11_init 23 = .ok (.putfield 18, 3) := by decide +kernel
theorem dX11_init_26 : decode cX11_init 26 = .ok (.return_, 1) := by decide +kernel
theorem dX11_reset_0 : decode cX11_reset 0 = .ok (.iload_n 1, 1) := by decide +kernel
theorem dX11_reset_1 : decode cX11_reset 1 = .ok (.ldc 21, 2) := by decide +kernel
theorem dX11_reset_3 : decode cX11_reset 3 = .ok (.ldc 22, 2) := by decide +kernel
theorem dX11_reset_5 : decode cX11_reset 5 = .ok (.invokestatic 23, 3) := by decide +kernel
theorem dX11_reset_8 : decode cX11_reset 8 = .ok (.ifCond .ne 6, 3) := by decide +kernel
theorem dX11_reset_11 : decode cX11_reset 11 = .ok (.ldc 27, 2) := by decide +kernel
theorem dX11_reset_13 : decode cX11_reset 13 = .ok (.ireturn, 1) := by decide +kernel
theorem dX11_reset_14 : decode cX11_reset 14 = .ok (.aload_n 0, 1) := by decide +kernel
theorem dX11_reset_15 : decode cX11_reset 15 = .ok (.getfield 12, 3) := by decide +kernel
theorem dX11_reset_18 : decode cX11_reset 18 = .ok (.getfield 28, 3) := by decide +kernel
theorem dX11_reset_21 : decode cX11_reset 21 = .ok (.istore_n 2, 1) := by decide +kernel
theorem dX11_reset_22 : decode cX11_reset 22 = .ok (.aload_n 0, 1) := by decide +kernel
theorem dX11_reset_23 : decode cX11_reset 23 = .ok (.getfield 12, 3) := by decide +kernel
theorem dX11_reset_26 : decode cX11_reset 26 = .ok (.iload_n 1, 1) := by decide +kernel
theorem dX11_reset_27 : decode cX11_reset 27 = .ok (.invokevirtual 32, 3) := by decide +kernel
theorem dX11_reset_30 : decode cX11_reset 30 = .ok (.iload_n 2, 1) := by decide +kernel
theorem dX11_reset_31 : decode cX11_reset 31 = .ok (.ireturn, 1) := by decide +kernel
theorem dX11_addSpan_0 : decode cX11_addSpan 0 = .ok (.iload_n 1, 1) := by decide +kernel
theorem dX11_addSpan_1 : decode cX11_addSpan 1 = .ok (.ldc 21, 2) := by decide +kernel
theorem dX11_addSpan_3 : decode cX11_addSpan 3 = .ok (.ldc 22, 2) := by decide +kernel
theorem dX11_addSpan_5 : decode cX11_addSpan 5 = .ok (.invokestatic 23, 3) := by decide +kernel
theorem dX11_addSpan_8 : decode cX11_addSpan 8 = .ok (.ifCond .ne 6, 3) := by decide +kernel
theorem dX11_addSpan_11 : decode cX11_addSpan 11 = .ok (.ldc 27, 2) := by decide +kernel
theorem dX11_addSpan_13 : decode cX11_addSpan 13 = .ok (.ireturn, 1) := by decide +kernel
theorem dX11_addSpan_14 : decode cX11_addSpan 14 = .ok (.aload_n 0, 1) := by decide +kernel
theorem dX11_addSpan_15 : decode cX11_addSpan 15 = .ok (.getfield 12, 3) := by decide +kernel
theorem dX11_addSpan_18 : decode cX11_addSpan 18 = .ok (.getfield 28, 3) := by decide +kernel
theorem dX11_addSpan_21 : decode cX11_addSpan 21 = .ok (.ifCond .eq 6, 3) := by decide +kernel
theorem dX11_addSpan_24 : decode cX11_addSpan 24 = .ok (.ldc 36, 2) := by decide +kernel
theorem dX11_addSpan_26 : decode cX11_addSpan 26 = .ok (.ireturn, 1) := by decide +kernel
theorem dX11_addSpan_27 : decode cX11_addSpan 27 = .ok (.aload_n 0, 1) := by decide +kernel
theorem dX11_addSpan_28 : decode cX11_addSpan 28 = .ok (.getfield 12, 3) := by decide +kernel
theorem dX11_addSpan_31 : decode cX11_addSpan 31 = .ok (.iload_n 1, 1) := by decide +kernel
theorem dX11_addSpan_32 : decode cX11_addSpan 32 = .ok (.invokevirtual 37, 3) := by decide +kernel
theorem dX11_addSpan_35 : decode cX11_addSpan 35 = .ok (.ireturn, 1) := by decide +kernel
theorem dX11_setDancer_0 : decode cX11_setDancer 0 = .ok (.aload_n 0, 1) := by decide +kernel
theorem dX11_setDancer_1 : decode cX11_setDancer 1 = .ok (.getfield 12, 3) := by decide +kernel
theorem dX11_setDancer_4 : decode cX11_setDancer 4 = .ok (.iload_n 1, 1) := by decide +kernel
theorem dX11_setDancer_5 : decode cX11_setDancer 5 = .ok (.invokevirtual 41, 3) := by decide +kernel
theorem dX11_setDancer_8 : decode cX11_setDancer 8 = .ok (.ifCond .ne 6, 3) := by decide +kernel
theorem dX11_setDancer_11 : decode cX11_setDancer 11 = .ok (.ldc 45, 2) := by decide +kernel
theorem dX11_setDancer_13 : decode cX11_setDancer 13 = .ok (.ireturn, 1) := by decide +kernel
theorem dX11_setDancer_14 : decode cX11_setDancer 14 = .ok (.iload_n 2, 1) := by decide +kernel
theorem dX11_setDancer_15 : decode cX11_setDancer 15 = .ok (.iconst 2, 1) := by decide +kernel
theorem dX11_setDancer_16 : decode cX11_setDancer 16 = .ok (.ldc 21, 2) := by decide +kernel
theorem dX11_setDancer_18 : decode cX11_setDancer 18 = .ok (.invokestatic 23, 3) := by decide +kernel
theorem dX11_setDancer_21 : decode cX11_setDancer 21 = .ok (.ifCond .eq 52, 3) := by decide +kernel
theorem dX11_setDancer_24 : decode cX11_setDancer 24 = .ok (.iload_n 3, 1) := by decide +kernel
theorem dX11_setDancer_25 : decode cX11_setDancer 25 = .ok (.iconst 0, 1) := by decide +kernel
theorem dX11_setDancer_26 : decode cX11_setDancer 26 = .ok (.ldc 46, 2) := by decide +kernel
theorem dX11_setDancer_28 : decode cX11_setDancer 28 = .ok (.invokestatic 23, 3) := by decide +kernel
theorem dX11_setDancer_31 : decode cX11_setDancer 31 = .ok (.ifCond .eq 42, 3) := by decide +kernel
theorem dX11_setDancer_34 : decode cX11_setDancer 34 = .ok (.iload 4, 2) := by decide +kernel
theorem dX11_setDancer_36 : decode cX11_setDancer 36 = .ok (.iconst 1, 1) := by decide +kernel
theorem dX11_setDancer_37 : decode cX11_setDancer 37 = .ok (.ldc 21, 2) := by decide +kernel
theorem dX11_setDancer_39 : decode cX11_setDancer 39 = .ok (.invokestatic 23, 3) := by decide +kernel
theorem dX11_setDancer_42 : decode cX11_setDancer 42 = .ok (.ifCond .eq 31, 3) := by decide +kernel
theorem dX11_setDancer_45 : decode cX11_setDancer 45 = .ok (.iload 5, 2) := by decide +kernel
theorem dX11_setDancer_47 : decode cX11_setDancer 47 = .ok (.sipush (-1000), 3) := by decide +kernel
theorem dX11_setDancer_50 : decode cX11_setDancer 50 = .ok (.sipush 1000, 3) := by decide +kernel
theorem dX11_setDancer_53 : decode cX11_setDancer 53 = .ok (.invokestatic 23, 3) := by decide +kernel
theorem dX11_setDancer_56 : decode cX11_setDancer 56 = .ok (.ifCond .eq 17, 3) := by decide +kernel
theorem dX11_setDancer_59 : decode cX11_setDancer 59 = .ok (.iload 6, 2) := by decide +kernel
theorem dX11_setDancer_61 : decode cX11_setDancer 61 = .ok (.sipush (-1000), 3) := by decide +kernel
theorem dX11_setDancer_64 : decode cX11_setDancer 64 = .ok (.sipush 1000, 3) := by decide +kernel
theorem dX11_setDancer_67 : decode cX11_setDancer 67 = .ok (.invokestatic 23, 3) := by decide +kernel
theorem dX11_setDancer_70 : decode cX11_setDancer 70 = .ok (.ifCond .ne 6, 3) := by decide +kernel
theorem dX11_setDancer_73 : decode cX11_setDancer 73 = .ok (.ldc 27, 2) := by decide +kernel
theorem dX11_setDancer_75 : decode cX11_setDancer 75 = .ok (.ireturn, 1) := by decide +kernel
theorem dX11_setDancer_76 : decode cX11_setDancer 76 = .ok (.aload_n 0, 1) := by decide +kernel
theorem dX11_setDancer_77 : decode cX11_setDancer 77 = .ok (.getfield 12, 3) := by decide +kernel
theorem dX11_setDancer_80 : decode cX11_setDancer 80 = .ok (.getfield 28, 3) := by decide +kernel
theorem dX11_setDancer_83 : decode cX11_setDancer 83 = .ok (.ifCond .eq 6, 3) := by decide +kernel
theorem dX11_setDancer_86 : decode cX11_setDancer 86 = .ok (.ldc 36, 2) := by decide +kernel
theorem dX11_setDancer_88 : decode cX11_setDancer 88 = .ok (.ireturn, 1) := by decide +kernel
theorem dX11_setDancer_89 : decode cX11_setDancer 89 = .ok (.aload_n 0, 1) := by decide +kernel
theorem dX11_setDancer_90 : decode cX11_setDancer 90 = .ok (.getfield 12, 3) := by decide +kernel
theorem dX11_setDancer_93 : decode cX11_setDancer 93 = .ok (.getfield 47, 3) := by decide +kernel
theorem dX11_setDancer_96 : decode cX11_setDancer 96 = .ok (.iload_n 1, 1) := by decide +kernel
theorem dX11_setDancer_97 : decode cX11_setDancer 97 = .ok (.aaload, 1) := by decide +kernel
theorem dX11_setDancer_98 : decode cX11_setDancer 98 = .ok (.getfield 51, 3) := by decide +kernel
theorem dX11_setDancer_101 : decode cX11_setDancer 101 = .ok (.iload_n 2, 1) := by decide +kernel
theorem dX11_setDancer_102 : decode cX11_setDancer 102 = .ok (.iload_n 3, 1) := by decide +kernel
theorem dX11_setDancer_103 : decode cX11_setDancer 103 = .ok (.iload 4, 2) := by decide +kernel
theorem dX11_setDancer_105 : decode cX11_setDancer 105 = .ok (.iload 5, 2) := by decide +kernel
theorem dX11_setDancer_107 : decode cX11_setDancer 107 = .ok (.iload 6, 2) := by decide +kernel
theorem dX11_setDancer_109 : decode cX11_setDancer 109 = .ok (.invokevirtual 57, 3) := by decide +kernel
theorem dX11_setDancer_112 : decode cX11_setDancer 112 = .ok (.aload_n 0, 1) := by decide +kernel
theorem dX11_setDancer_113 : decode cX11_setDancer 113 = .ok (.getfield 12, 3) := by decide +kernel
theorem dX11_setDancer_116 : decode cX11_setDancer 116 = .ok (.getfield 47, 3) := by decide +kernel
theorem dX11_setDancer_119 : decode cX11_setDancer 119 = .ok (.iload_n 1, 1) := by decide +kernel
theorem dX11_setDancer_120 : decode cX11_setDancer 120 = .ok (.aaload, 1) := by decide +kernel
theorem dX11_setDancer_121 : decode cX11_setDancer 121 = .ok (.iconst 1, 1) := by decide +kernel
theorem dX11_setDancer_122 : decode cX11_setDancer 122 = .ok (.invokevirtual 62, 3) := by decide +kernel
theorem dX11_setDancer_125 : decode cX11_setDancer 125 = .ok (.ireturn, 1) := by decide +kernel
theorem dX11_setLoadCell_0 : decode cX11_setLoadCell 0 = .ok (.aload_n 0, 1) := by decide +kernel
theorem dX11_setLoadCell_1 : decode cX11_setLoadCell 1 = .ok (.getfield 12, 3) := by decide +kernel
theorem dX11_setLoadCell_4 : decode cX11_setLoadCell 4 = .ok (.iload_n 1, 1) := by decide +kernel
theorem dX11_setLoadCell_5 : decode cX11_setLoadCell 5 = .ok (.invokevirtual 41, 3) := by decide +kernel
theorem dX11_setLoadCell_8 : decode cX11_setLoadCell 8 = .ok (.ifCond .ne 6, 3) := by decide +kernel
theorem dX11_setLoadCell_11 : decode cX11_setLoadCell 11 = .ok (.ldc 45, 2) := by decide +kernel
theorem dX11_setLoadCell_13 : decode cX11_setLoadCell 13 = .ok (.ireturn, 1) := by decide +kernel
theorem dX11_setLoadCell_14 : decode cX11_setLoadCell 14 = .ok (.iload_n 2, 1) := by decide +kernel
theorem dX11_setLoadCell_15 : decode cX11_setLoadCell 15 = .ok (.iconst 0, 1) := by decide +kernel
theorem dX11_setLoadCell_16 : decode cX11_setLoadCell 16 = .ok (.ldc 46, 2) := by decide +kernel
theorem dX11_setLoadCell_18 : decode cX11_setLoadCell 18 = .ok (.invokestatic 23, 3) := by decide +kernel
theorem dX11_setLoadCell_21 : decode cX11_setLoadCell 21 = .ok (.ifCond .eq 16, 3) := by decide +kernel
theorem dX11_setLoadCell_24 : decode cX11_setLoadCell 24 = .ok (.iload_n 3, 1) := by decide +kernel
theorem dX11_setLoadCell_25 : decode cX11_setLoadCell 25 = .ok (.sipush (-10000), 3) := by decide +kernel
theorem dX11_setLoadCell_28 : decode cX11_setLoadCell 28 = .ok (.sipush 10000, 3) := by decide +kernel
theorem dX11_setLoadCell_31 : decode cX11_setLoadCell 31 = .ok (.invokestatic 23, 3) := by decide +kernel
theorem dX11_setLoadCell_34 : decode cX11_setLoadCell 34 = .ok (.ifCond .ne 6, 3) := by decide +kernel
theorem dX11_setLoadCell_37 : decode cX11_setLoadCell 37 = .ok (.ldc 27, 2) := by decide +kernel
theorem dX11_setLoadCell_39 : decode cX11_setLoadCell 39 = .ok (.ireturn, 1) := by decide +kernel
theorem dX11_setLoadCell_40 : decode cX11_setLoadCell 40 = .ok (.aload_n 0, 1) := by decide +kernel
theorem dX11_setLoadCell_41 : decode cX11_setLoadCell 41 = .ok (.getfield 12, 3) := by decide +kernel
theorem dX11_setLoadCell_44 : decode cX11_setLoadCell 44 = .ok (.getfield 28, 3) := by decide +kernel
theorem dX11_setLoadCell_47 : decode cX11_setLoadCell 47 = .ok (.ifCond .eq 6, 3) := by decide +kernel
theorem dX11_setLoadCell_50 : decode cX11_setLoadCell 50 = .ok (.ldc 36, 2) := by decide +kernel
theorem dX11_setLoadCell_52 : decode cX11_setLoadCell 52 = .ok (.ireturn, 1) := by decide +kernel
theorem dX11_setLoadCell_53 : decode cX11_setLoadCell 53 = .ok (.aload_n 0, 1) := by decide +kernel
theorem dX11_setLoadCell_54 : decode cX11_setLoadCell 54 = .ok (.getfield 12, 3) := by decide +kernel
theorem dX11_setLoadCell_57 : decode cX11_setLoadCell 57 = .ok (.getfield 47, 3) := by decide +kernel
theorem dX11_setLoadCell_60 : decode cX11_setLoadCell 60 = .ok (.iload_n 1, 1) := by decide +kernel
theorem dX11_setLoadCell_61 : decode cX11_setLoadCell 61 = .ok (.aaload, 1) := by decide +kernel
theorem dX11_setLoadCell_62 : decode cX11_setLoadCell 62 = .ok (.getfield 65, 3) := by decide +kernel
theorem dX11_setLoadCell_65 : decode cX11_setLoadCell 65 = .ok (.iload_n 2, 1) := by decide +kernel
theorem dX11_setLoadCell_66 : decode cX11_setLoadCell 66 = .ok (.iload_n 3, 1) := by decide +kernel
theorem dX11_setLoadCell_67 : decode cX11_setLoadCell 67 = .ok (.invokevirtual 69, 3) := by decide +kernel
theorem dX11_setLoadCell_70 : decode cX11_setLoadCell 70 = .ok (.aload_n 0, 1) := by decide +kernel
theorem dX11_setLoadCell_71 : decode cX11_setLoadCell 71 = .ok (.getfield 12, 3) := by decide +kernel
theorem dX11_setLoadCell_74 : decode cX11_setLoadCell 74 = .ok (.getfield 47, 3) := by decide +kernel
theorem dX11_setLoadCell_77 : decode cX11_setLoadCell 77 = .ok (.iload_n 1, 1) := by decide +kernel
theorem dX11_setLoadCell_78 : decode cX11_setLoadCell 78 = .ok (.aaload, 1) := by decide +kernel
theorem dX11_setLoadCell_79 : decode cX11_setLoadCell 79 = .ok (.iconst 2, 1) := by decide +kernel
theorem dX11_setLoadCell_80 : decode cX11_setLoadCell 80 = .ok (.invokevirtual 62, 3) := by decide +kernel
theorem dX11_setLoadCell_83 : decode cX11_setLoadCell 83 = .ok (.ireturn, 1) := by decide +kernel
theorem dX11_setWeb_0 : decode cX11_setWeb 0 = .ok (.iload_n 1, 1) := by decide +kernel
theorem dX11_setWeb_1 : decode cX11_setWeb 1 = .ok (.sipush 1000, 3) := by decide +kernel
theorem dX11_setWeb_4 : decode cX11_setWeb 4 = .ok (.ldc 22, 2) := by decide +kernel
theorem dX11_setWeb_6 : decode cX11_setWeb 6 = .ok (.invokestatic 23, 3) := by decide +kernel
theorem dX11_setWeb_9 : decode cX11_setWeb 9 = .ok (.ifCond .eq 13, 3) := by decide +kernel
theorem dX11_setWeb_12 : decode cX11_setWeb 12 = .ok (.iload_n 2, 1) := by decide +kernel
theorem dX11_setWeb_13 : decode cX11_setWeb 13 = .ok (.iconst 0, 1) := by decide +kernel
theorem dX11_setWeb_14 : decode cX11_setWeb 14 = .ok (.ldc 21, 2) := by decide +kernel
theorem dX11_setWeb_16 : decode cX11_setWeb 16 = .ok (.invokestatic 23, 3) := by decide +kernel
theorem dX11_setWeb_19 : decode cX11_setWeb 19 = .ok (.ifCond .ne 6, 3) := by decide +kernel
theorem dX11_setWeb_22 : decode cX11_setWeb 22 = .ok (.ldc 27, 2) := by decide +kernel
theorem dX11_setWeb_24 : decode cX11_setWeb 24 = .ok (.ireturn, 1) := by decide +kernel
theorem dX11_setWeb_25 : decode cX11_setWeb 25 = .ok (.aload_n 0, 1) := by decide +kernel
theorem dX11_setWeb_26 : decode cX11_setWeb 26 = .ok (.getfield 12, 3) := by decide +kernel
theorem dX11_setWeb_29 : decode cX11_setWeb 29 = .ok (.getfield 28, 3) := by decide +kernel
theorem dX11_setWeb_32 : decode cX11_setWeb 32 = .ok (.ifCond .eq 6, 3) := by decide +kernel
theorem dX11_setWeb_35 : decode cX11_setWeb 35 = .ok (.ldc 36, 2) := by decide +kernel
theorem dX11_setWeb_37 : decode cX11_setWeb 37 = .ok (.ireturn, 1) := by decide +kernel
theorem dX11_setWeb_38 : decode cX11_setWeb 38 = .ok (.aload_n 0, 1) := by decide +kernel
theorem dX11_setWeb_39 : decode cX11_setWeb 39 = .ok (.getfield 12, 3) := by decide +kernel
theorem dX11_setWeb_42 : decode cX11_setWeb 42 = .ok (.getfield 74, 3) := by decide +kernel
theorem dX11_setWeb_45 : decode cX11_setWeb 45 = .ok (.iload_n 1, 1) := by decide +kernel
theorem dX11_setWeb_46 : decode cX11_setWeb 46 = .ok (.iload_n 2, 1) := by decide +kernel
theorem dX11_setWeb_47 : decode cX11_setWeb 47 = .ok (.invokevirtual 78, 3) := by decide +kernel
theorem dX11_setWeb_50 : decode cX11_setWeb 50 = .ok (.ireturn, 1) := by decide +kernel
theorem dX11_setStrength_0 : decode cX11_setStrength 0 = .ok (.iload_n 1, 1) := by decide +kernel
theorem dX11_setStrength_1 : decode cX11_setStrength 1 = .ok (.sipush 1000, 3) := by decide +kernel
theorem dX11_setStrength_4 : decode cX11_setStrength 4 = .ok (.ldc 22, 2) := by decide +kernel
theorem dX11_setStrength_6 : decode cX11_setStrength 6 = .ok (.invokestatic 23, 3) := by decide +kernel
theorem dX11_setStrength_9 : decode cX11_setStrength 9 = .ok (.ifCond .eq 14, 3) := by decide +kernel
theorem dX11_setStrength_12 : decode cX11_setStrength 12 = .ok (.iload_n 2, 1) := by decide +kernel
theorem dX11_setStrength_13 : decode cX11_setStrength 13 = .ok (.iconst 1, 1) := by decide +kernel
theorem dX11_setStrength_14 : decode cX11_setStrength 14 = .ok (.sipush 1000, 3) := by decide +kernel
theorem dX11_setStrength_17 : decode cX11_setStrength 17 = .ok (.invokestatic 23, 3) := by decide +kernel
theorem dX11_setStrength_20 : decode cX11_setStrength 20 = .ok (.ifCond .ne 6, 3) := by decide +kernel
theorem dX11_setStrength_23 : decode cX11_setStrength 23 = .ok (.ldc 27, 2) := by decide +kernel
theorem dX11_setStrength_25 : decode cX11_setStrength 25 = .ok (.ireturn, 1) := by decide +kernel
theorem dX11_setStrength_26 : decode cX11_setStrength 26 = .ok (.aload_n 0, 1) := by decide +kernel
theorem dX11_setStrength_27 : decode cX11_setStrength 27 = .ok (.getfield 12, 3) := by decide +kernel
theorem dX11_setStrength_30 : decode cX11_setStrength 30 = .ok (.getfield 74, 3) := by decide +kernel
theorem dX11_setStrength_33 : decode cX11_setStrength 33 = .ok (.iload_n 1, 1) := by decide +kernel
theorem dX11_setStrength_34 : decode cX11_setStrength 34 = .ok (.iload_n 2, 1) := by decide +kernel
theorem dX11_setStrength_35 : decode cX11_setStrength 35 = .ok (.invokevirtual 84, 3) := by decide +kernel
theorem dX11_setStrength_38 : decode cX11_setStrength 38 = .ok (.ireturn, 1) := by decide +kernel
theorem dX11_setDraw_0 : decode cX11_setDraw 0 = .ok (.iload_n 1, 1) := by decide +kernel
theorem dX11_setDraw_1 : decode cX11_setDraw 1 = .ok (.ifCond .eq 14, 3) := by decide +kernel
theorem dX11_setDraw_4 : decode cX11_setDraw 4 = .ok (.aload_n 0, 1) := by decide +kernel
theorem dX11_setDraw_5 : decode cX11_setDraw 5 = .ok (.getfield 12, 3) := by decide +kernel
theorem dX11_setDraw_8 : decode cX11_setDraw 8 = .ok (.iload_n 1, 1) := by decide +kernel
theorem dX11_setDraw_9 : decode cX11_setDraw 9 = .ok (.invokevirtual 87, 3) := by decide +kernel
theorem dX11_setDraw_12 : decode cX11_setDraw 12 = .ok (.ifCond .ne 6, 3) := by decide +kernel
theorem dX11_setDraw_15 : decode cX11_setDraw 15 = .ok (.ldc 45, 2) := by decide +kernel
theorem dX11_setDraw_17 : decode cX11_setDraw 17 = .ok (.ireturn, 1) := by decide +kernel
theorem dX11_setDraw_18 : decode cX11_setDraw 18 = .ok (.iload_n 2, 1) := by decide +kernel
theorem dX11_setDraw_19 : decode cX11_setDraw 19 = .ok (.sipush (-20000), 3) := by decide +kernel
theorem dX11_setDraw_22 : decode cX11_setDraw 22 = .ok (.sipush 20000, 3) := by decide +kernel
theorem dX11_setDraw_25 : decode cX11_setDraw 25 = .ok (.invokestatic 23, 3) := by decide +kernel
theorem dX11_setDraw_28 : decode cX11_setDraw 28 = .ok (.ifCond .ne 6, 3) := by decide +kernel
theorem dX11_setDraw_31 : decode cX11_setDraw 31 = .ok (.ldc 27, 2) := by decide +kernel
theorem dX11_setDraw_33 : decode cX11_setDraw 33 = .ok (.ireturn, 1) := by decide +kernel
theorem dX11_setDraw_34 : decode cX11_setDraw 34 = .ok (.aload_n 0, 1) := by decide +kernel
theorem dX11_setDraw_35 : decode cX11_setDraw 35 = .ok (.getfield 12, 3) := by decide +kernel
theorem dX11_setDraw_38 : decode cX11_setDraw 38 = .ok (.getfield 90, 3) := by decide +kernel
theorem dX11_setDraw_41 : decode cX11_setDraw 41 = .ok (.iload_n 1, 1) := by decide +kernel
theorem dX11_setDraw_42 : decode cX11_setDraw 42 = .ok (.aaload, 1) := by decide +kernel
theorem dX11_setDraw_43 : decode cX11_setDraw 43 = .ok (.getfield 94, 3) := by decide +kernel
theorem dX11_setDraw_46 : decode cX11_setDraw 46 = .ok (.istore_n 3, 1) := by decide +kernel
theorem dX11_setDraw_47 : decode cX11_setDraw 47 = .ok (.aload_n 0, 1) := by decide +kernel
theorem dX11_setDraw_48 : decode cX11_setDraw 48 = .ok (.getfield 12, 3) := by decide +kernel
theorem dX11_setDraw_51 : decode cX11_setDraw 51 = .ok (.getfield 90, 3) := by decide +kernel
theorem dX11_setDraw_54 : decode cX11_setDraw 54 = .ok (.iload_n 1, 1) := by decide +kernel
theorem dX11_setDraw_55 : decode cX11_setDraw 55 = .ok (.aaload, 1) := by decide +kernel
theorem dX11_setDraw_56 : decode cX11_setDraw 56 = .ok (.iload_n 2, 1) := by decide +kernel
theorem dX11_setDraw_57 : decode cX11_setDraw 57 = .ok (.putfield 94, 3) := by decide +kernel
theorem dX11_setDraw_60 : decode cX11_setDraw 60 = .ok (.iload_n 3, 1) := by decide +kernel
theorem dX11_setDraw_61 : decode cX11_setDraw 61 = .ok (.ireturn, 1) := by decide +kernel
theorem dX11_setSpeed_0 : decode cX11_setSpeed 0 = .ok (.iload_n 1, 1) := by decide +kernel
theorem dX11_setSpeed_1 : decode cX11_setSpeed 1 = .ok (.iconst 0, 1) := by decide +kernel
theorem dX11_setSpeed_2 : decode cX11_setSpeed 2 = .ok (.sipush 20000, 3) := by decide +kernel
theorem dX11_setSpeed_5 : decode cX11_setSpeed 5 = .ok (.invokestatic 23, 3) := by decide +kernel
theorem dX11_setSpeed_8 : decode cX11_setSpeed 8 = .ok (.ifCond .eq 14, 3) := by decide +kernel
theorem dX11_setSpeed_11 : decode cX11_setSpeed 11 = .ok (.iload_n 2, 1) := by decide +kernel
theorem dX11_setSpeed_12 : decode cX11_setSpeed 12 = .ok (.iconst 1, 1) := by decide +kernel
theorem dX11_setSpeed_13 : decode cX11_setSpeed 13 = .ok (.sipush 5000, 3) := by decide +kernel
theorem dX11_setSpeed_16 : decode cX11_setSpeed 16 = .ok (.invokestatic 23, 3) := by decide +kernel
theorem dX11_setSpeed_19 : decode cX11_setSpeed 19 = .ok (.ifCond .ne 6, 3) := by decide +kernel
theorem dX11_setSpeed_22 : decode cX11_setSpeed 22 = .ok (.ldc 27, 2) := by decide +kernel
theorem dX11_setSpeed_24 : decode cX11_setSpeed 24 = .ok (.ireturn, 1) := by decide +kernel
theorem dX11_setSpeed_25 : decode cX11_setSpeed 25 = .ok (.aload_n 0, 1) := by decide +kernel
theorem dX11_setSpeed_26 : decode cX11_setSpeed 26 = .ok (.getfield 12, 3) := by decide +kernel
theorem dX11_setSpeed_29 : decode cX11_setSpeed 29 = .ok (.getfield 99, 3) := by decide +kernel
theorem dX11_setSpeed_32 : decode cX11_setSpeed 32 = .ok (.iload_n 1, 1) := by decide +kernel
theorem dX11_setSpeed_33 : decode cX11_setSpeed 33 = .ok (.iload_n 2, 1) := by decide +kernel
theorem dX11_setSpeed_34 : decode cX11_setSpeed 34 = .ok (.invokevirtual 103, 3) := by decide +kernel
theorem dX11_setSpeed_37 : decode cX11_setSpeed 37 = .ok (.ireturn, 1) := by decide +kernel
theorem dX11_setSplicing_0 : decode cX11_setSplicing 0 = .ok (.iload_n 1, 1) := by decide +kernel
theorem dX11_setSplicing_1 : decode cX11_setSplicing 1 = .ok (.iconst 0, 1) := by decide +kernel
theorem dX11_setSplicing_2 : decode cX11_setSplicing 2 = .ok (.sipush 20000, 3) := by decide +kernel
theorem dX11_setSplicing_5 : decode cX11_setSplicing 5 = .ok (.invokestatic 23, 3) := by decide +kernel
theorem dX11_setSplicing_8 : decode cX11_setSplicing 8 = .ok (.ifCond .eq 13, 3) := by decide +kernel
theorem dX11_setSplicing_11 : decode cX11_setSplicing 11 = .ok (.iload_n 2, 1) := by decide +kernel
theorem dX11_setSplicing_12 : decode cX11_setSplicing 12 = .ok (.iconst 0, 1) := by decide +kernel
theorem dX11_setSplicing_13 : decode cX11_setSplicing 13 = .ok (.ldc 108, 2) := by decide +kernel
theorem dX11_setSplicing_15 : decode cX11_setSplicing 15 = .ok (.invokestatic 23, 3) := by decide +kernel
theorem dX11_setSplicing_18 : decode cX11_setSplicing 18 = .ok (.ifCond .ne 6, 3) := by decide +kernel
theorem dX11_setSplicing_21 : decode cX11_setSplicing 21 = .ok (.ldc 27, 2) := by decide +kernel
theorem dX11_setSplicing_23 : decode cX11_setSplicing 23 = .ok (.ireturn, 1) := by decide +kernel
theorem dX11_setSplicing_24 : decode cX11_setSplicing 24 = .ok (.aload_n 0, 1) := by decide +kernel
theorem dX11_setSplicing_25 : decode cX11_setSplicing 25 = .ok (.getfield 12, 3) := by decide +kernel
theorem dX11_setSplicing_28 : decode cX11_setSplicing 28 = .ok (.getfield 99, 3) := by decide +kernel
theorem dX11_setSplicing_31 : decode cX11_setSplicing 31 = .ok (.iload_n 1, 1) := by decide +kernel
theorem dX11_setSplicing_32 : decode cX11_setSplicing 32 = .ok (.iload_n 2, 1) := by decide +kernel
theorem dX11_setSplicing_33 : decode cX11_setSplicing 33 = .ok (.invokevirtual 109, 3) := by decide +kernel
theorem dX11_setSplicing_36 : decode cX11_setSplicing 36 = .ok (.ireturn, 1) := by decide +kernel
theorem dX11_loadRoll_0 : decode cX11_loadRoll 0 = .ok (.iload_n 1, 1) := by decide +kernel
theorem dX11_loadRoll_1 : decode cX11_loadRoll 1 = .ok (.iconst 1, 1) := by decide +kernel
theorem dX11_loadRoll_2 : decode cX11_loadRoll 2 = .ok (.ldc 112, 2) := by decide +kernel
theorem dX11_loadRoll_4 : decode cX11_loadRoll 4 = .ok (.invokestatic 23, 3) := by decide +kernel
theorem dX11_loadRoll_7 : decode cX11_loadRoll 7 = .ok (.ifCond .ne 6, 3) := by decide +kernel
theorem dX11_loadRoll_10 : decode cX11_loadRoll 10 = .ok (.ldc 27, 2) := by decide +kernel
theorem dX11_loadRoll_12 : decode cX11_loadRoll 12 = .ok (.ireturn, 1) := by decide +kernel
theorem dX11_loadRoll_13 : decode cX11_loadRoll 13 = .ok (.aload_n 0, 1) := by decide +kernel
theorem dX11_loadRoll_14 : decode cX11_loadRoll 14 = .ok (.getfield 12, 3) := by decide +kernel
theorem dX11_loadRoll_17 : decode cX11_loadRoll 17 = .ok (.getfield 113, 3) := by decide +kernel
theorem dX11_loadRoll_20 : decode cX11_loadRoll 20 = .ok (.iload_n 1, 1) := by decide +kernel
theorem dX11_loadRoll_21 : decode cX11_loadRoll 21 = .ok (.invokevirtual 117, 3) := by decide +kernel
theorem dX11_loadRoll_24 : decode cX11_loadRoll 24 = .ok (.ireturn, 1) := by decide +kernel
theorem dX11_setRollLength_0 : decode cX11_setRollLength 0 = .ok (.iload_n 1, 1) := by decide +kernel
theorem dX11_setRollLength_1 : decode cX11_setRollLength 1 = .ok (.ldc 21, 2) := by decide +kernel
theorem dX11_setRollLength_3 : decode cX11_setRollLength 3 = .ok (.ldc 112, 2) := by decide +kernel
theorem dX11_setRollLength_5 : decode cX11_setRollLength 5 = .ok (.invokestatic 23, 3) := by decide +kernel
theorem dX11_setRollLength_8 : decode cX11_setRollLength 8 = .ok (.ifCond .ne 6, 3) := by decide +kernel
theorem dX11_setRollLength_11 : decode cX11_setRollLength 11 = .ok (.ldc 27, 2) := by decide +kernel
theorem dX11_setRollLength_13 : decode cX11_setRollLength 13 = .ok (.ireturn, 1) := by decide +kernel
theorem dX11_setRollLength_14 : decode cX11_setRollLength 14 = .ok (.aload_n 0, 1) := by decide +kernel
theorem dX11_setRollLength_15 : decode cX11_setRollLength 15 = .ok (.getfield 12, 3) := by decide +kernel
theorem dX11_setRollLength_18 : decode cX11_setRollLength 18 = .ok (.getfield 122, 3) := by decide +kernel
theorem dX11_setRollLength_21 : decode cX11_setRollLength 21 = .ok (.getfield 126, 3) := by decide +kernel
theorem dX11_setRollLength_24 : decode cX11_setRollLength 24 = .ok (.istore_n 2, 1) := by decide +kernel
theorem dX11_setRollLength_25 : decode cX11_setRollLength 25 = .ok (.aload_n 0, 1) := by decide +kernel
theorem dX11_setRollLength_26 : decode cX11_setRollLength 26 = .ok (.getfield 12, 3) := by decide +kernel
theorem dX11_setRollLength_29 : decode cX11_setRollLength 29 = .ok (.getfield 122, 3) := by decide +kernel
theorem dX11_setRollLength_32 : decode cX11_setRollLength 32 = .ok (.iload_n 1, 1) := by decide +kernel
theorem dX11_setRollLength_33 : decode cX11_setRollLength 33 = .ok (.putfield 126, 3) := by decide +kernel
theorem dX11_setRollLength_36 : decode cX11_setRollLength 36 = .ok (.iload_n 2, 1) := by decide +kernel
theorem dX11_setRollLength_37 : decode cX11_setRollLength 37 = .ok (.ireturn, 1) := by decide +kernel
theorem dX11_run_0 : decode cX11_run 0 = .ok (.iload_n 1, 1) := by decide +kernel
theorem dX11_run_1 : decode cX11_run 1 = .ok (.iconst 1, 1) := by decide +kernel
theorem dX11_run_2 : decode cX11_run 2 = .ok (.sipush 300, 3) := by decide +kernel
theorem dX11_run_5 : decode cX11_run 5 = .ok (.invokestatic 23, 3) := by decide +kernel
theorem dX11_run_8 : decode cX11_run 8 = .ok (.ifCond .ne 6, 3) := by decide +kernel
theorem dX11_run_11 : decode cX11_run 11 = .ok (.ldc 27, 2) := by decide +kernel
theorem dX11_run_13 : decode cX11_run 13 = .ok (.ireturn, 1) := by decide +kernel
theorem dX11_run_14 : decode cX11_run 14 = .ok (.iconst 0, 1) := by decide +kernel
theorem dX11_run_15 : decode cX11_run 15 = .ok (.istore_n 2, 1) := by decide +kernel
theorem dX11_run_16 : decode cX11_run 16 = .ok (.iload_n 2, 1) := by decide +kernel
theorem dX11_run_17 : decode cX11_run 17 = .ok (.iload_n 1, 1) := by decide +kernel
theorem dX11_run_18 : decode cX11_run 18 = .ok (.if_icmp .ge 16, 3) := by decide +kernel
theorem dX11_run_21 : decode cX11_run 21 = .ok (.aload_n 0, 1) := by decide +kernel
theorem dX11_run_22 : decode cX11_run 22 = .ok (.getfield 12, 3) := by decide +kernel
theorem dX11_run_25 : decode cX11_run 25 = .ok (.invokevirtual 131, 3) := by decide +kernel
theorem dX11_run_28 : decode cX11_run 28 = .ok (.iinc 2 1, 3) := by decide +kernel
theorem dX11_run_31 : decode cX11_run 31 = .ok (.goto (-15), 3) := by decide +kernel
theorem dX11_run_34 : decode cX11_run 34 = .ok (.aload_n 0, 1) := by decide +kernel
theorem dX11_run_35 : decode cX11_run 35 = .ok (.getfield 12, 3) := by decide +kernel
theorem dX11_run_38 : decode cX11_run 38 = .ok (.getfield 134, 3) := by decide +kernel
theorem dX11_run_41 : decode cX11_run 41 = .ok (.ireturn, 1) := by decide +kernel
theorem dX11_thread_0 : decode cX11_thread 0 = .ok (.aload_n 0, 1) := by decide +kernel
theorem dX11_thread_1 : decode cX11_thread 1 = .ok (.getfield 12, 3) := by decide +kernel
theorem dX11_thread_4 : decode cX11_thread 4 = .ok (.getfield 134, 3) := by decide +kernel
theorem dX11_thread_7 : decode cX11_thread 7 = .ok (.ifCond .ne 6, 3) := by decide +kernel
theorem dX11_thread_10 : decode cX11_thread 10 = .ok (.ldc 36, 2) := by decide +kernel
theorem dX11_thread_12 : decode cX11_thread 12 = .ok (.ireturn, 1) := by decide +kernel
theorem dX11_thread_13 : decode cX11_thread 13 = .ok (.aload_n 0, 1) := by decide +kernel
theorem dX11_thread_14 : decode cX11_thread 14 = .ok (.getfield 12, 3) := by decide +kernel
theorem dX11_thread_17 : decode cX11_thread 17 = .ok (.invokevirtual 137, 3) := by decide +kernel
theorem dX11_thread_20 : decode cX11_thread 20 = .ok (.iconst 1, 1) := by decide +kernel
theorem dX11_thread_21 : decode cX11_thread 21 = .ok (.ireturn, 1) := by decide +kernel
theorem dX11_value_0 : decode cX11_value 0 = .ok (.iload_n 1, 1) := by decide +kernel
theorem dX11_value_1 : decode cX11_value 1 = .ok (.tableswitch 126 0 7 #[47, 55, 63, 74, 82, 93, 104, 115], 47) := by decide +kernel
theorem dX11_value_48 : decode cX11_value 48 = .ok (.aload_n 0, 1) := by decide +kernel
theorem dX11_value_49 : decode cX11_value 49 = .ok (.getfield 12, 3) := by decide +kernel
theorem dX11_value_52 : decode cX11_value 52 = .ok (.getfield 28, 3) := by decide +kernel
theorem dX11_value_55 : decode cX11_value 55 = .ok (.ireturn, 1) := by decide +kernel
theorem dX11_value_56 : decode cX11_value 56 = .ok (.aload_n 0, 1) := by decide +kernel
theorem dX11_value_57 : decode cX11_value 57 = .ok (.getfield 12, 3) := by decide +kernel
theorem dX11_value_60 : decode cX11_value 60 = .ok (.getfield 134, 3) := by decide +kernel
theorem dX11_value_63 : decode cX11_value 63 = .ok (.ireturn, 1) := by decide +kernel
theorem dX11_value_64 : decode cX11_value 64 = .ok (.aload_n 0, 1) := by decide +kernel
theorem dX11_value_65 : decode cX11_value 65 = .ok (.getfield 12, 3) := by decide +kernel
theorem dX11_value_68 : decode cX11_value 68 = .ok (.getfield 99, 3) := by decide +kernel
theorem dX11_value_71 : decode cX11_value 71 = .ok (.getfield 140, 3) := by decide +kernel
theorem dX11_value_74 : decode cX11_value 74 = .ok (.ireturn, 1) := by decide +kernel
theorem dX11_value_75 : decode cX11_value 75 = .ok (.aload_n 0, 1) := by decide +kernel
theorem dX11_value_76 : decode cX11_value 76 = .ok (.getfield 12, 3) := by decide +kernel
theorem dX11_value_79 : decode cX11_value 79 = .ok (.getfield 143, 3) := by decide +kernel
theorem dX11_value_82 : decode cX11_value 82 = .ok (.ireturn, 1) := by decide +kernel
theorem dX11_value_83 : decode cX11_value 83 = .ok (.aload_n 0, 1) := by decide +kernel
theorem dX11_value_84 : decode cX11_value 84 = .ok (.getfield 12, 3) := by decide +kernel
theorem dX11_value_87 : decode cX11_value 87 = .ok (.getfield 146, 3) := by decide +kernel
theorem dX11_value_90 : decode cX11_value 90 = .ok (.getfield 150, 3) := by decide +kernel
theorem dX11_value_93 : decode cX11_value 93 = .ok (.ireturn, 1) := by decide +kernel
theorem dX11_value_94 : decode cX11_value 94 = .ok (.aload_n 0, 1) := by decide +kernel
theorem dX11_value_95 : decode cX11_value 95 = .ok (.getfield 12, 3) := by decide +kernel
theorem dX11_value_98 : decode cX11_value 98 = .ok (.getfield 122, 3) := by decide +kernel
theorem dX11_value_101 : decode cX11_value 101 = .ok (.getfield 155, 3) := by decide +kernel
theorem dX11_value_104 : decode cX11_value 104 = .ok (.ireturn, 1) := by decide +kernel
theorem dX11_value_105 : decode cX11_value 105 = .ok (.aload_n 0, 1) := by decide +kernel
theorem dX11_value_106 : decode cX11_value 106 = .ok (.getfield 12, 3) := by decide +kernel
theorem dX11_value_109 : decode cX11_value 109 = .ok (.getfield 113, 3) := by decide +kernel
theorem dX11_value_112 : decode cX11_value 112 = .ok (.getfield 158, 3) := by decide +kernel
theorem dX11_value_115 : decode cX11_value 115 = .ok (.ireturn, 1) := by decide +kernel
theorem dX11_value_116 : decode cX11_value 116 = .ok (.aload_n 0, 1) := by decide +kernel
theorem dX11_value_117 : decode cX11_value 117 = .ok (.getfield 12, 3) := by decide +kernel
theorem dX11_value_120 : decode cX11_value 120 = .ok (.getfield 161, 3) := by decide +kernel
theorem dX11_value_123 : decode cX11_value 123 = .ok (.getfield 165, 3) := by decide +kernel
theorem dX11_value_126 : decode cX11_value 126 = .ok (.ireturn, 1) := by decide +kernel
theorem dX11_value_127 : decode cX11_value 127 = .ok (.ldc 27, 2) := by decide +kernel
theorem dX11_value_129 : decode cX11_value 129 = .ok (.ireturn, 1) := by decide +kernel
theorem dX11_breakAt_0 : decode cX11_breakAt 0 = .ok (.aload_n 0, 1) := by decide +kernel
theorem dX11_breakAt_1 : decode cX11_breakAt 1 = .ok (.getfield 12, 3) := by decide +kernel
theorem dX11_breakAt_4 : decode cX11_breakAt 4 = .ok (.getfield 168, 3) := by decide +kernel
theorem dX11_breakAt_7 : decode cX11_breakAt 7 = .ok (.ireturn, 1) := by decide +kernel
theorem dX11_measure_0 : decode cX11_measure 0 = .ok (.aload_n 0, 1) := by decide +kernel
theorem dX11_measure_1 : decode cX11_measure 1 = .ok (.getfield 12, 3) := by decide +kernel
theorem dX11_measure_4 : decode cX11_measure 4 = .ok (.iload_n 1, 1) := by decide +kernel
theorem dX11_measure_5 : decode cX11_measure 5 = .ok (.invokevirtual 41, 3) := by decide +kernel
theorem dX11_measure_8 : decode cX11_measure 8 = .ok (.ifCond .ne 7, 3) := by decide +kernel
theorem dX11_measure_11 : decode cX11_measure 11 = .ok (.ldc2_w 171, 3) := by decide +kernel
theorem dX11_measure_14 : decode cX11_measure 14 = .ok (.lreturn, 1) := by decide +kernel
theorem dX11_measure_15 : decode cX11_measure 15 = .ok (.aload_n 0, 1) := by decide +kernel
theorem dX11_measure_16 : decode cX11_measure 16 = .ok (.getfield 12, 3) := by decide +kernel
theorem dX11_measure_19 : decode cX11_measure 19 = .ok (.getfield 47, 3) := by decide +kernel
theorem dX11_measure_22 : decode cX11_measure 22 = .ok (.iload_n 1, 1) := by decide +kernel
theorem dX11_measure_23 : decode cX11_measure 23 = .ok (.aaload, 1) := by decide +kernel
theorem dX11_measure_24 : decode cX11_measure 24 = .ok (.astore_n 3, 1) := by decide +kernel
theorem dX11_measure_25 : decode cX11_measure 25 = .ok (.iload_n 2, 1) := by decide +kernel
theorem dX11_measure_26 : decode cX11_measure 26 = .ok (.tableswitch 138 0 7 #[46, 61, 66, 71, 76, 82, 92, 115], 46) := by decide +kernel
theorem dX11_measure_72 : decode cX11_measure 72 = .ok (.aload_n 3, 1) := by decide +kernel
theorem dX11_measure_73 : decode cX11_measure 73 = .ok (.aload_n 0, 1) := by decide +kernel
theorem dX11_measure_74 : decode cX11_measure 74 = .ok (.getfield 12, 3) := by decide +kernel
theorem dX11_measure_77 : decode cX11_measure 77 = .ok (.getfield 74, 3) := by decide +kernel
theorem dX11_measure_80 : decode cX11_measure 80 = .ok (.getfield 173, 3) := by decide +kernel
theorem dX11_measure_83 : decode cX11_measure 83 = .ok (.invokevirtual 176, 3) := by decide +kernel
theorem dX11_measure_86 : decode cX11_measure 86 = .ok (.lreturn, 1) := by decide +kernel
theorem dX11_measure_87 : decode cX11_measure 87 = .ok (.aload_n 3, 1) := by decide +kernel
theorem dX11_measure_88 : decode cX11_measure 88 = .ok (.getfield 180, 3) := by decide +kernel
theorem dX11_measure_91 : decode cX11_measure 91 = .ok (.lreturn, 1) := by decide +kernel
theorem dX11_measure_92 : decode cX11_measure 92 = .ok (.aload_n 3, 1) := by decide +kernel
theorem dX11_measure_93 : decode cX11_measure 93 = .ok (.invokevirtual 184, 3) := by decide +kernel
theorem dX11_measure_96 : decode cX11_measure 96 = .ok (.lreturn, 1) := by decide +kernel
theorem dX11_measure_97 : decode cX11_measure 97 = .ok (.aload_n 3, 1) := by decide +kernel
theorem dX11_measure_98 : decode cX11_measure 98 = .ok (.getfield 188, 3) := by decide +kernel
theorem dX11_measure_101 : decode cX11_measure 101 = .ok (.lreturn, 1) := by decide +kernel
theorem dX11_measure_102 : decode cX11_measure 102 = .ok (.aload_n 3, 1) := by decide +kernel
theorem dX11_measure_103 : decode cX11_measure 103 = .ok (.getfield 191, 3) := by decide +kernel
theorem dX11_measure_106 : decode cX11_measure 106 = .ok (.i2l, 1) := by decide +kernel
theorem dX11_measure_107 : decode cX11_measure 107 = .ok (.lreturn, 1) := by decide +kernel
theorem dX11_measure_108 : decode cX11_measure 108 = .ok (.aload_n 0, 1) := by decide +kernel
theorem dX11_measure_109 : decode cX11_measure 109 = .ok (.getfield 12, 3) := by decide +kernel
theorem dX11_measure_112 : decode cX11_measure 112 = .ok (.iload_n 1, 1) := by decide +kernel
theorem dX11_measure_113 : decode cX11_measure 113 = .ok (.invokevirtual 194, 3) := by decide +kernel
theorem dX11_measure_116 : decode cX11_measure 116 = .ok (.i2l, 1) := by decide +kernel
theorem dX11_measure_117 : decode cX11_measure 117 = .ok (.lreturn, 1) := by decide +kernel
theorem dX11_measure_118 : decode cX11_measure 118 = .ok (.aload_n 3, 1) := by decide +kernel
theorem dX11_measure_119 : decode cX11_measure 119 = .ok (.getfield 197, 3) := by decide +kernel
theorem dX11_measure_122 : decode cX11_measure 122 = .ok (.iconst 1, 1) := by decide +kernel
theorem dX11_measure_123 : decode cX11_measure 123 = .ok (.if_icmp .ne 14, 3) := by decide +kernel
theorem dX11_measure_126 : decode cX11_measure 126 = .ok (.aload_n 3, 1) := by decide +kernel
theorem dX11_measure_127 : decode cX11_measure 127 = .ok (.getfield 51, 3) := by decide +kernel
theorem dX11_measure_130 : decode cX11_measure 130 = .ok (.getfield 200, 3) := by decide +kernel
theorem dX11_measure_133 : decode cX11_measure 133 = .ok (.i2l, 1) := by decide +kernel
theorem dX11_measure_134 : decode cX11_measure 134 = .ok (.goto 6, 3) := by decide +kernel
theorem dX11_measure_137 : decode cX11_measure 137 = .ok (.ldc2_w 171, 3) := by decide +kernel
theorem dX11_measure_140 : decode cX11_measure 140 = .ok (.lreturn, 1) := by decide +kernel
theorem dX11_measure_141 : decode cX11_measure 141 = .ok (.aload_n 3, 1) := by decide +kernel
theorem dX11_measure_142 : decode cX11_measure 142 = .ok (.getfield 197, 3) := by decide +kernel
theorem dX11_measure_145 : decode cX11_measure 145 = .ok (.iconst 1, 1) := by decide +kernel
theorem dX11_measure_146 : decode cX11_measure 146 = .ok (.if_icmp .ne 14, 3) := by decide +kernel
theorem dX11_measure_149 : decode cX11_measure 149 = .ok (.aload_n 3, 1) := by decide +kernel
theorem dX11_measure_150 : decode cX11_measure 150 = .ok (.getfield 51, 3) := by decide +kernel
theorem dX11_measure_153 : decode cX11_measure 153 = .ok (.getfield 203, 3) := by decide +kernel
theorem dX11_measure_156 : decode cX11_measure 156 = .ok (.i2l, 1) := by decide +kernel
theorem dX11_measure_157 : decode cX11_measure 157 = .ok (.goto 6, 3) := by decide +kernel
theorem dX11_measure_160 : decode cX11_measure 160 = .ok (.ldc2_w 171, 3) := by decide +kernel
theorem dX11_measure_163 : decode cX11_measure 163 = .ok (.lreturn, 1) := by decide +kernel
theorem dX11_measure_164 : decode cX11_measure 164 = .ok (.ldc2_w 171, 3) := by decide +kernel
theorem dX11_measure_167 : decode cX11_measure 167 = .ok (.lreturn, 1) := by decide +kernel
theorem dX11_roller_0 : decode cX11_roller 0 = .ok (.aload_n 0, 1) := by decide +kernel
theorem dX11_roller_1 : decode cX11_roller 1 = .ok (.getfield 12, 3) := by decide +kernel
theorem dX11_roller_4 : decode cX11_roller 4 = .ok (.iload_n 1, 1) := by decide +kernel
theorem dX11_roller_5 : decode cX11_roller 5 = .ok (.invokevirtual 87, 3) := by decide +kernel
theorem dX11_roller_8 : decode cX11_roller 8 = .ok (.ifCond .ne 7, 3) := by decide +kernel
theorem dX11_roller_11 : decode cX11_roller 11 = .ok (.ldc2_w 171, 3) := by decide +kernel
theorem dX11_roller_14 : decode cX11_roller 14 = .ok (.lreturn, 1) := by decide +kernel
theorem dX11_roller_15 : decode cX11_roller 15 = .ok (.iload_n 2, 1) := by decide +kernel
theorem dX11_roller_16 : decode cX11_roller 16 = .ok (.tableswitch 82 0 3 #[32, 45, 54, 68], 32) := by decide +kernel
theorem dX11_roller_48 : decode cX11_roller 48 = .ok (.aload_n 0, 1) := by decide +kernel
theorem dX11_roller_49 : decode cX11_roller 49 = .ok (.getfield 12, 3) := by decide +kernel
theorem dX11_roller_52 : decode cX11_roller 52 = .ok (.getfield 90, 3) := by decide +kernel
theorem dX11_roller_55 : decode cX11_roller 55 = .ok (.iload_n 1, 1) := by decide +kernel
theorem dX11_roller_56 : decode cX11_roller 56 = .ok (.aaload, 1) := by decide +kernel
theorem dX11_roller_57 : decode cX11_roller 57 = .ok (.getfield 206, 3) := by decide +kernel
theorem dX11_roller_60 : decode cX11_roller 60 = .ok (.lreturn, 1) := by decide +kernel
theorem dX11_roller_61 : decode cX11_roller 61 = .ok (.aload_n 0, 1) := by decide +kernel
theorem dX11_roller_62 : decode cX11_roller 62 = .ok (.getfield 12, 3) := by decide +kernel
theorem dX11_roller_65 : decode cX11_roller 65 = .ok (.iload_n 1, 1) := by decide +kernel
theorem dX11_roller_66 : decode cX11_roller 66 = .ok (.invokevirtual 209, 3) := by decide +kernel
theorem dX11_roller_69 : decode cX11_roller 69 = .ok (.lreturn, 1) := by decide +kernel
theorem dX11_roller_70 : decode cX11_roller 70 = .ok (.aload_n 0, 1) := by decide +kernel
theorem dX11_roller_71 : decode cX11_roller 71 = .ok (.getfield 12, 3) := by decide +kernel
theorem dX11_roller_74 : decode cX11_roller 74 = .ok (.getfield 90, 3) := by decide +kernel
theorem dX11_roller_77 : decode cX11_roller 77 = .ok (.iload_n 1, 1) := by decide +kernel
theorem dX11_roller_78 : decode cX11_roller 78 = .ok (.aaload, 1) := by decide +kernel
theorem dX11_roller_79 : decode cX11_roller 79 = .ok (.getfield 94, 3) := by decide +kernel
theorem dX11_roller_82 : decode cX11_roller 82 = .ok (.i2l, 1) := by decide +kernel
theorem dX11_roller_83 : decode cX11_roller 83 = .ok (.lreturn, 1) := by decide +kernel
theorem dX11_roller_84 : decode cX11_roller 84 = .ok (.aload_n 0, 1) := by decide +kernel
theorem dX11_roller_85 : decode cX11_roller 85 = .ok (.getfield 12, 3) := by decide +kernel
theorem dX11_roller_88 : decode cX11_roller 88 = .ok (.getfield 90, 3) := by decide +kernel
theorem dX11_roller_91 : decode cX11_roller 91 = .ok (.iload_n 1, 1) := by decide +kernel
theorem dX11_roller_92 : decode cX11_roller 92 = .ok (.aaload, 1) := by decide +kernel
theorem dX11_roller_93 : decode cX11_roller 93 = .ok (.getfield 212, 3) := by decide +kernel
theorem dX11_roller_96 : decode cX11_roller 96 = .ok (.i2l, 1) := by decide +kernel
theorem dX11_roller_97 : decode cX11_roller 97 = .ok (.lreturn, 1) := by decide +kernel
theorem dX11_roller_98 : decode cX11_roller 98 = .ok (.ldc2_w 171, 3) := by decide +kernel
theorem dX11_roller_101 : decode cX11_roller 101 = .ok (.lreturn, 1) := by decide +kernel
theorem dX11_web_0 : decode cX11_web 0 = .ok (.iload_n 1, 1) := by decide +kernel
theorem dX11_web_1 : decode cX11_web 1 = .ok (.tableswitch 60 0 2 #[27, 38, 49], 27) := by decide +kernel
theorem dX11_web_28 : decode cX11_web 28 = .ok (.aload_n 0, 1) := by decide +kernel
theorem dX11_web_29 : decode cX11_web 29 = .ok (.getfield 12, 3) := by decide +kernel
theorem dX11_web_32 : decode cX11_web 32 = .ok (.getfield 113, 3) := by decide +kernel
theorem dX11_web_35 : decode cX11_web 35 = .ok (.getfield 215, 3) := by decide +kernel
theorem dX11_web_38 : decode cX11_web 38 = .ok (.lreturn, 1) := by decide +kernel
theorem dX11_web_39 : decode cX11_web 39 = .ok (.aload_n 0, 1) := by decide +kernel
theorem dX11_web_40 : decode cX11_web 40 = .ok (.getfield 12, 3) := by decide +kernel
theorem dX11_web_43 : decode cX11_web 43 = .ok (.getfield 113, 3) := by decide +kernel
theorem dX11_web_46 : decode cX11_web 46 = .ok (.invokevirtual 218, 3) := by decide +kernel
theorem dX11_web_49 : decode cX11_web 49 = .ok (.lreturn, 1) := by decide +kernel
theorem dX11_web_50 : decode cX11_web 50 = .ok (.aload_n 0, 1) := by decide +kernel
theorem dX11_web_51 : decode cX11_web 51 = .ok (.getfield 12, 3) := by decide +kernel
theorem dX11_web_54 : decode cX11_web 54 = .ok (.getfield 122, 3) := by decide +kernel
theorem dX11_web_57 : decode cX11_web 57 = .ok (.getfield 221, 3) := by decide +kernel
theorem dX11_web_60 : decode cX11_web 60 = .ok (.lreturn, 1) := by decide +kernel
theorem dX11_web_61 : decode cX11_web 61 = .ok (.ldc2_w 171, 3) := by decide +kernel
theorem dX11_web_64 : decode cX11_web 64 = .ok (.lreturn, 1) := by decide +kernel
theorem dX11_markDistance_0 : decode cX11_markDistance 0 = .ok (.iload_n 1, 1) := by decide +kernel
theorem dX11_markDistance_1 : decode cX11_markDistance 1 = .ok (.ifCond .lt 17, 3) := by decide +kernel
theorem dX11_markDistance_4 : decode cX11_markDistance 4 = .ok (.iload_n 1, 1) := by decide +kernel
theorem dX11_markDistance_5 : decode cX11_markDistance 5 = .ok (.aload_n 0, 1) := by decide +kernel
theorem dX11_markDistance_6 : decode cX11_markDistance 6 = .ok (.getfield 12, 3) := by decide +kernel
theorem dX11_markDistance_9 : decode cX11_markDistance 9 = .ok (.getfield 146, 3) := by decide +kernel
theorem dX11_markDistance_12 : decode cX11_markDistance 12 = .ok (.getfield 150, 3) := by decide +kernel
theorem dX11_markDistance_15 : decode cX11_markDistance 15 = .ok (.if_icmp .lt 7, 3) := by decide +kernel
theorem dX11_markDistance_18 : decode cX11_markDistance 18 = .ok (.ldc2_w 171, 3) := by decide +kernel
theorem dX11_markDistance_21 : decode cX11_markDistance 21 = .ok (.lreturn, 1) := by decide +kernel
theorem dX11_markDistance_22 : decode cX11_markDistance 22 = .ok (.aload_n 0, 1) := by decide +kernel
theorem dX11_markDistance_23 : decode cX11_markDistance 23 = .ok (.getfield 12, 3) := by decide +kernel
theorem dX11_markDistance_26 : decode cX11_markDistance 26 = .ok (.getfield 146, 3) := by decide +kernel
theorem dX11_markDistance_29 : decode cX11_markDistance 29 = .ok (.getfield 223, 3) := by decide +kernel
theorem dX11_markDistance_32 : decode cX11_markDistance 32 = .ok (.iload_n 1, 1) := by decide +kernel
theorem dX11_markDistance_33 : decode cX11_markDistance 33 = .ok (.laload, 1) := by decide +kernel
theorem dX11_markDistance_34 : decode cX11_markDistance 34 = .ok (.aload_n 0, 1) := by decide +kernel
theorem dX11_markDistance_35 : decode cX11_markDistance 35 = .ok (.getfield 12, 3) := by decide +kernel
theorem dX11_markDistance_38 : decode cX11_markDistance 38 = .ok (.aload_n 0, 1) := by decide +kernel
theorem dX11_markDistance_39 : decode cX11_markDistance 39 = .ok (.getfield 12, 3) := by decide +kernel
theorem dX11_markDistance_42 : decode cX11_markDistance 42 = .ok (.getfield 143, 3) := by decide +kernel
theorem dX11_markDistance_45 : decode cX11_markDistance 45 = .ok (.invokevirtual 227, 3) := by decide +kernel
theorem dX11_markDistance_48 : decode cX11_markDistance 48 = .ok (.lsub, 1) := by decide +kernel
theorem dX11_markDistance_49 : decode cX11_markDistance 49 = .ok (.lreturn, 1) := by decide +kernel
theorem dX11_slackSpans_0 : decode cX11_slackSpans 0 = .ok (.iconst 0, 1) := by decide +kernel
theorem dX11_slackSpans_1 : decode cX11_slackSpans 1 = .ok (.istore_n 1, 1) := by decide +kernel
theorem dX11_slackSpans_2 : decode cX11_slackSpans 2 = .ok (.iconst 0, 1) := by decide +kernel
theorem dX11_slackSpans_3 : decode cX11_slackSpans 3 = .ok (.istore_n 2, 1) := by decide +kernel
theorem dX11_slackSpans_4 : decode cX11_slackSpans 4 = .ok (.iload_n 2, 1) := by decide +kernel
theorem dX11_slackSpans_5 : decode cX11_slackSpans 5 = .ok (.aload_n 0, 1) := by decide +kernel
theorem dX11_slackSpans_6 : decode cX11_slackSpans 6 = .ok (.getfield 12, 3) := by decide +kernel
theorem dX11_slackSpans_9 : decode cX11_slackSpans 9 = .ok (.getfield 143, 3) := by decide +kernel
theorem dX11_slackSpans_12 : decode cX11_slackSpans 12 = .ok (.if_icmp .ge 32, 3) := by decide +kernel
theorem dX11_slackSpans_15 : decode cX11_slackSpans 15 = .ok (.aload_n 0, 1) := by decide +kernel
theorem dX11_slackSpans_16 : decode cX11_slackSpans 16 = .ok (.getfield 12, 3) := by decide +kernel
theorem dX11_slackSpans_19 : decode cX11_slackSpans 19 = .ok (.getfield 47, 3) := by decide +kernel
theorem dX11_slackSpans_22 : decode cX11_slackSpans 22 = .ok (.iload_n 2, 1) := by decide +kernel
theorem dX11_slackSpans_23 : decode cX11_slackSpans 23 = .ok (.aaload, 1) := by decide +kernel
theorem dX11_slackSpans_24 : decode cX11_slackSpans 24 = .ok (.getfield 191, 3) := by decide +kernel
theorem dX11_slackSpans_27 : decode cX11_slackSpans 27 = .ok (.bipush 20, 2) := by decide +kernel
theorem dX11_slackSpans_29 : decode cX11_slackSpans 29 = .ok (.if_icmp .lt 9, 3) := by decide +kernel
theorem dX11_slackSpans_32 : decode cX11_slackSpans 32 = .ok (.iload_n 1, 1) := by decide +kernel
theorem dX11_slackSpans_33 : decode cX11_slackSpans 33 = .ok (.iconst 1, 1) := by decide +kernel
theorem dX11_slackSpans_34 : decode cX11_slackSpans 34 = .ok (.iload_n 2, 1) := by decide +kernel
theorem dX11_slackSpans_35 : decode cX11_slackSpans 35 = .ok (.ishl, 1) := by decide +kernel
theorem dX11_slackSpans_36 : decode cX11_slackSpans 36 = .ok (.ior, 1) := by decide +kernel
theorem dX11_slackSpans_37 : decode cX11_slackSpans 37 = .ok (.istore_n 1, 1) := by decide +kernel
theorem dX11_slackSpans_38 : decode cX11_slackSpans 38 = .ok (.iinc 2 1, 3) := by decide +kernel
theorem dX11_slackSpans_41 : decode cX11_slackSpans 41 = .ok (.goto (-37), 3) := by decide +kernel
theorem dX11_slackSpans_44 : decode cX11_slackSpans 44 = .ok (.iload_n 1, 1) := by decide +kernel
theorem dX11_slackSpans_45 : decode cX11_slackSpans 45 = .ok (.ireturn, 1) := by decide +kernel
theorem dX11_event_0 : decode cX11_event 0 = .ok (.iload_n 1, 1) := by decide +kernel
theorem dX11_event_1 : decode cX11_event 1 = .ok (.ifCond .lt 12, 3) := by decide +kernel
theorem dX11_event_4 : decode cX11_event 4 = .ok (.iload_n 2, 1) := by decide +kernel
theorem dX11_event_5 : decode cX11_event 5 = .ok (.iconst 0, 1) := by decide +kernel
theorem dX11_event_6 : decode cX11_event 6 = .ok (.iconst 2, 1) := by decide +kernel
theorem dX11_event_7 : decode cX11_event 7 = .ok (.invokestatic 23, 3) := by decide +kernel
theorem dX11_event_10 : decode cX11_event 10 = .ok (.ifCond .ne 6, 3) := by decide +kernel
theorem dX11_event_13 : decode cX11_event 13 = .ok (.ldc 27, 2) := by decide +kernel
theorem dX11_event_15 : decode cX11_event 15 = .ok (.ireturn, 1) := by decide +kernel
theorem dX11_event_16 : decode cX11_event 16 = .ok (.iload_n 1, 1) := by decide +kernel
theorem dX11_event_17 : decode cX11_event 17 = .ok (.aload_n 0, 1) := by decide +kernel
theorem dX11_event_18 : decode cX11_event 18 = .ok (.getfield 12, 3) := by decide +kernel
theorem dX11_event_21 : decode cX11_event 21 = .ok (.getfield 161, 3) := by decide +kernel
theorem dX11_event_24 : decode cX11_event 24 = .ok (.getfield 165, 3) := by decide +kernel
theorem dX11_event_27 : decode cX11_event 27 = .ok (.if_icmp .lt 6, 3) := by decide +kernel
theorem dX11_event_30 : decode cX11_event 30 = .ok (.ldc 230, 2) := by decide +kernel
theorem dX11_event_32 : decode cX11_event 32 = .ok (.ireturn, 1) := by decide +kernel
theorem dX11_event_33 : decode cX11_event 33 = .ok (.aload_n 0, 1) := by decide +kernel
theorem dX11_event_34 : decode cX11_event 34 = .ok (.getfield 12, 3) := by decide +kernel
theorem dX11_event_37 : decode cX11_event 37 = .ok (.getfield 161, 3) := by decide +kernel
theorem dX11_event_40 : decode cX11_event 40 = .ok (.iload_n 1, 1) := by decide +kernel
theorem dX11_event_41 : decode cX11_event 41 = .ok (.invokevirtual 231, 3) := by decide +kernel
theorem dX11_event_44 : decode cX11_event 44 = .ok (.istore_n 3, 1) := by decide +kernel
theorem dX11_event_45 : decode cX11_event 45 = .ok (.iload_n 2, 1) := by decide +kernel
theorem dX11_event_46 : decode cX11_event 46 = .ok (.ifCond .ne 16, 3) := by decide +kernel
theorem dX11_event_49 : decode cX11_event 49 = .ok (.aload_n 0, 1) := by decide +kernel
theorem dX11_event_50 : decode cX11_event 50 = .ok (.getfield 12, 3) := by decide +kernel
theorem dX11_event_53 : decode cX11_event 53 = .ok (.getfield 161, 3) := by decide +kernel
theorem dX11_event_56 : decode cX11_event 56 = .ok (.getfield 234, 3) := by decide +kernel
theorem dX11_event_59 : decode cX11_event 59 = .ok (.iload_n 3, 1) := by decide +kernel
theorem dX11_event_60 : decode cX11_event 60 = .ok (.iaload, 1) := by decide +kernel
theorem dX11_event_61 : decode cX11_event 61 = .ok (.ireturn, 1) := by decide +kernel
theorem dX11_event_62 : decode cX11_event 62 = .ok (.iload_n 2, 1) := by decide +kernel
theorem dX11_event_63 : decode cX11_event 63 = .ok (.iconst 1, 1) := by decide +kernel
theorem dX11_event_64 : decode cX11_event 64 = .ok (.if_icmp .ne 18, 3) := by decide +kernel
theorem dX11_event_67 : decode cX11_event 67 = .ok (.aload_n 0, 1) := by decide +kernel
theorem dX11_event_68 : decode cX11_event 68 = .ok (.getfield 12, 3) := by decide +kernel
theorem dX11_event_71 : decode cX11_event 71 = .ok (.getfield 161, 3) := by decide +kernel
theorem dX11_event_74 : decode cX11_event 74 = .ok (.getfield 238, 3) := by decide +kernel
theorem dX11_event_77 : decode cX11_event 77 = .ok (.iload_n 3, 1) := by decide +kernel
theorem dX11_event_78 : decode cX11_event 78 = .ok (.iaload, 1) := by decide +kernel
theorem dX11_event_79 : decode cX11_event 79 = .ok (.goto 15, 3) := by decide +kernel
theorem dX11_event_82 : decode cX11_event 82 = .ok (.aload_n 0, 1) := by decide +kernel
theorem dX11_event_83 : decode cX11_event 83 = .ok (.getfield 12, 3) := by decide +kernel
theorem dX11_event_86 : decode cX11_event 86 = .ok (.getfield 161, 3) := by decide +kernel
theorem dX11_event_89 : decode cX11_event 89 = .ok (.getfield 241, 3) := by decide +kernel
theorem dX11_event_92 : decode cX11_event 92 = .ok (.iload_n 3, 1) := by decide +kernel
theorem dX11_event_93 : decode cX11_event 93 = .ok (.iaload, 1) := by decide +kernel
theorem dX11_event_94 : decode cX11_event 94 = .ok (.ireturn, 1) := by decide +kernel
theorem dX11_steadyTension_0 : decode cX11_steadyTension 0 = .ok (.aload_n 0, 1) := by decide +kernel
theorem dX11_steadyTension_1 : decode cX11_steadyTension 1 = .ok (.getfield 12, 3) := by decide +kernel
theorem dX11_steadyTension_4 : decode cX11_steadyTension 4 = .ok (.iload_n 1, 1) := by decide +kernel
theorem dX11_steadyTension_5 : decode cX11_steadyTension 5 = .ok (.invokevirtual 41, 3) := by decide +kernel
theorem dX11_steadyTension_8 : decode cX11_steadyTension 8 = .ok (.ifCond .ne 6, 3) := by decide +kernel
theorem dX11_steadyTension_11 : decode cX11_steadyTension 11 = .ok (.ldc 45, 2) := by decide +kernel
theorem dX11_steadyTension_13 : decode cX11_steadyTension 13 = .ok (.ireturn, 1) := by decide +kernel
theorem dX11_steadyTension_14 : decode cX11_steadyTension 14 = .ok (.aload_n 0, 1) := by decide +kernel
theorem dX11_steadyTension_15 : decode cX11_steadyTension 15 = .ok (.getfield 12, 3) := by decide +kernel
theorem dX11_steadyTension_18 : decode cX11_steadyTension 18 = .ok (.getfield 99, 3) := by decide +kernel
theorem dX11_steadyTension_21 : decode cX11_steadyTension 21 = .ok (.getfield 243, 3) := by decide +kernel
theorem dX11_steadyTension_24 : decode cX11_steadyTension 24 = .ok (.istore_n 2, 1) := by decide +kernel
theorem dX11_steadyTension_25 : decode cX11_steadyTension 25 = .ok (.iload_n 2, 1) := by decide +kernel
theorem dX11_steadyTension_26 : decode cX11_steadyTension 26 = .ok (.ifCond .ne 6, 3) := by decide +kernel
theorem dX11_steadyTension_29 : decode cX11_steadyTension 29 = .ok (.ldc 230, 2) := by decide +kernel
theorem dX11_steadyTension_31 : decode cX11_steadyTension 31 = .ok (.ireturn, 1) := by decide +kernel
theorem dX11_steadyTension_32 : decode cX11_steadyTension 32 = .ok (.aload_n 0, 1) := by decide +kernel
theorem dX11_steadyTension_33 : decode cX11_steadyTension 33 = .ok (.getfield 12, 3) := by decide +kernel
theorem dX11_steadyTension_36 : decode cX11_steadyTension 36 = .ok (.getfield 74, 3) := by decide +kernel
theorem dX11_steadyTension_39 : decode cX11_steadyTension 39 = .ok (.aload_n 0, 1) := by decide +kernel
theorem dX11_steadyTension_40 : decode cX11_steadyTension 40 = .ok (.getfield 12, 3) := by decide +kernel
theorem dX11_steadyTension_43 : decode cX11_steadyTension 43 = .ok (.iload_n 1, 1) := by decide +kernel
theorem dX11_steadyTension_44 : decode cX11_steadyTension 44 = .ok (.iconst 1, 1) := by decide +kernel
theorem dX11_steadyTension_45 : decode cX11_steadyTension 45 = .ok (.iadd, 1) := by decide +kernel
theorem dX11_steadyTension_46 : decode cX11_steadyTension 46 = .ok (.iload_n 2, 1) := by decide +kernel
theorem dX11_steadyTension_47 : decode cX11_steadyTension 47 = .ok (.invokevirtual 246, 3) := by decide +kernel
theorem dX11_steadyTension_50 : decode cX11_steadyTension 50 = .ok (.iload_n 2, 1) := by decide +kernel
theorem dX11_steadyTension_51 : decode cX11_steadyTension 51 = .ok (.i2l, 1) := by decide +kernel
theorem dX11_steadyTension_52 : decode cX11_steadyTension 52 = .ok (.invokevirtual 250, 3) := by decide +kernel
theorem dX11_steadyTension_55 : decode cX11_steadyTension 55 = .ok (.l2i, 1) := by decide +kernel
theorem dX11_steadyTension_56 : decode cX11_steadyTension 56 = .ok (.ireturn, 1) := by decide +kernel
theorem dX11_bestDraw_0 : decode cX11_bestDraw 0 = .ok (.aload_n 0, 1) := by decide +kernel
theorem dX11_bestDraw_1 : decode cX11_bestDraw 1 = .ok (.getfield 12, 3) := by decide +kernel
theorem dX11_bestDraw_4 : decode cX11_bestDraw 4 = .ok (.iload_n 1, 1) := by decide +kernel
theorem dX11_bestDraw_5 : decode cX11_bestDraw 5 = .ok (.invokevirtual 41, 3) := by decide +kernel
theorem dX11_bestDraw_8 : decode cX11_bestDraw 8 = .ok (.ifCond .ne 6, 3) := by decide +kernel
theorem dX11_bestDraw_11 : decode cX11_bestDraw 11 = .ok (.ldc 45, 2) := by decide +kernel
theorem dX11_bestDraw_13 : decode cX11_bestDraw 13 = .ok (.ireturn, 1) := by decide +kernel
theorem dX11_bestDraw_14 : decode cX11_bestDraw 14 = .ok (.iload_n 2, 1) := by decide +kernel
theorem dX11_bestDraw_15 : decode cX11_bestDraw 15 = .ok (.iconst 0, 1) := by decide +kernel
theorem dX11_bestDraw_16 : decode cX11_bestDraw 16 = .ok (.ldc 46, 2) := by decide +kernel
theorem dX11_bestDraw_18 : decode cX11_bestDraw 18 = .ok (.invokestatic 23, 3) := by decide +kernel
theorem dX11_bestDraw_21 : decode cX11_bestDraw 21 = .ok (.ifCond .ne 6, 3) := by decide +kernel
theorem dX11_bestDraw_24 : decode cX11_bestDraw 24 = .ok (.ldc 27, 2) := by decide +kernel
theorem dX11_bestDraw_26 : decode cX11_bestDraw 26 = .ok (.ireturn, 1) := by decide +kernel
theorem dX11_bestDraw_27 : decode cX11_bestDraw 27 = .ok (.aload_n 0, 1) := by decide +kernel
theorem dX11_bestDraw_28 : decode cX11_bestDraw 28 = .ok (.getfield 12, 3) := by decide +kernel
theorem dX11_bestDraw_31 : decode cX11_bestDraw 31 = .ok (.getfield 99, 3) := by decide +kernel
theorem dX11_bestDraw_34 : decode cX11_bestDraw 34 = .ok (.getfield 243, 3) := by decide +kernel
theorem dX11_bestDraw_37 : decode cX11_bestDraw 37 = .ok (.istore_n 3, 1) := by decide +kernel
theorem dX11_bestDraw_38 : decode cX11_bestDraw 38 = .ok (.iload_n 3, 1) := by decide +kernel
theorem dX11_bestDraw_39 : decode cX11_bestDraw 39 = .ok (.ifCond .ne 6, 3) := by decide +kernel
theorem dX11_bestDraw_42 : decode cX11_bestDraw 42 = .ok (.ldc 230, 2) := by decide +kernel
theorem dX11_bestDraw_44 : decode cX11_bestDraw 44 = .ok (.ireturn, 1) := by decide +kernel
theorem dX11_bestDraw_45 : decode cX11_bestDraw 45 = .ok (.aload_n 0, 1) := by decide +kernel
theorem dX11_bestDraw_46 : decode cX11_bestDraw 46 = .ok (.getfield 12, 3) := by decide +kernel
theorem dX11_bestDraw_49 : decode cX11_bestDraw 49 = .ok (.iload_n 1, 1) := by decide +kernel
theorem dX11_bestDraw_50 : decode cX11_bestDraw 50 = .ok (.iload_n 3, 1) := by decide +kernel
theorem dX11_bestDraw_51 : decode cX11_bestDraw 51 = .ok (.invokevirtual 246, 3) := by decide +kernel
theorem dX11_bestDraw_54 : decode cX11_bestDraw 54 = .ok (.lstore 4, 2) := by decide +kernel
theorem dX11_bestDraw_56 : decode cX11_bestDraw 56 = .ok (.sipush (-20000), 3) := by decide +kernel
theorem dX11_bestDraw_59 : decode cX11_bestDraw 59 = .ok (.istore 6, 2) := by decide +kernel
theorem dX11_bestDraw_61 : decode cX11_bestDraw 61 = .ok (.aload_n 0, 1) := by decide +kernel
theorem dX11_bestDraw_62 : decode cX11_bestDraw 62 = .ok (.getfield 12, 3) := by decide +kernel
theorem dX11_bestDraw_65 : decode cX11_bestDraw 65 = .ok (.getfield 74, 3) := by decide +kernel
theorem dX11_bestDraw_68 : decode cX11_bestDraw 68 = .ok (.iload_n 2, 1) := by decide +kernel
theorem dX11_bestDraw_69 : decode cX11_bestDraw 69 = .ok (.lload 4, 2) := by decide +kernel
theorem dX11_bestDraw_71 : decode cX11_bestDraw 71 = .ok (.iload 6, 2) := by decide +kernel
theorem dX11_bestDraw_73 : decode cX11_bestDraw 73 = .ok (.invokestatic 254, 3) := by decide +kernel
theorem dX11_bestDraw_76 : decode cX11_bestDraw 76 = .ok (.iload_n 3, 1) := by decide +kernel
theorem dX11_bestDraw_77 : decode cX11_bestDraw 77 = .ok (.i2l, 1) := by decide +kernel
theorem dX11_bestDraw_78 : decode cX11_bestDraw 78 = .ok (.invokevirtual 258, 3) := by decide +kernel
theorem dX11_bestDraw_81 : decode cX11_bestDraw 81 = .ok (.lstore 7, 2) := by decide +kernel
theorem dX11_bestDraw_83 : decode cX11_bestDraw 83 = .ok (.sipush (-19950), 3) := by decide +kernel
theorem dX11_bestDraw_86 : decode cX11_bestDraw 86 = .ok (.istore 9, 2) := by decide +kernel
theorem dX11_bestDraw_88 : decode cX11_bestDraw 88 = .ok (.iload 9, 2) := by decide +kernel
theorem dX11_bestDraw_90 : decode cX11_bestDraw 90 = .ok (.sipush 20000, 3) := by decide +kernel
theorem dX11_bestDraw_93 : decode cX11_bestDraw 93 = .ok (.if_icmp .gt 47, 3) := by decide +kernel
theorem dX11_bestDraw_96 : decode cX11_bestDraw 96 = .ok (.aload_n 0, 1) := by decide +kernel
theorem dX11_bestDraw_97 : decode cX11_bestDraw 97 = .ok (.getfield 12, 3) := by decide +kernel
theorem dX11_bestDraw_100 : decode cX11_bestDraw 100 = .ok (.getfield 74, 3) := by decide +kernel
theorem dX11_bestDraw_103 : decode cX11_bestDraw 103 = .ok (.iload_n 2, 1) := by decide +kernel
theorem dX11_bestDraw_104 : decode cX11_bestDraw 104 = .ok (.lload 4, 2) := by decide +kernel
theorem dX11_bestDraw_106 : decode cX11_bestDraw 106 = .ok (.iload 9, 2) := by decide +kernel
theorem dX11_bestDraw_108 : decode cX11_bestDraw 108 = .ok (.invokestatic 254, 3) := by decide +kernel
theorem dX11_bestDraw_111 : decode cX11_bestDraw 111 = .ok (.iload_n 3, 1) := by decide +kernel
theorem dX11_bestDraw_112 : decode cX11_bestDraw 112 = .ok (.i2l, 1) := by decide +kernel
theorem dX11_bestDraw_113 : decode cX11_bestDraw 113 = .ok (.invokevirtual 258, 3) := by decide +kernel
theorem dX11_bestDraw_116 : decode cX11_bestDraw 116 = .ok (.lstore 10, 2) := by decide +kernel
theorem dX11_bestDraw_118 : decode cX11_bestDraw 118 = .ok (.lload 10, 2) := by decide +kernel
theorem dX11_bestDraw_120 : decode cX11_bestDraw 120 = .ok (.lload 7, 2) := by decide +kernel
theorem dX11_bestDraw_122 : decode cX11_bestDraw 122 = .ok (.lcmp, 1) := by decide +kernel
theorem dX11_bestDraw_123 : decode cX11_bestDraw 123 = .ok (.ifCond .ge 11, 3) := by decide +kernel
theorem dX11_bestDraw_126 : decode cX11_bestDraw 126 = .ok (.lload 10, 2) := by decide +kernel
theorem dX11_bestDraw_128 : decode cX11_bestDraw 128 = .ok (.lstore 7, 2) := by decide +kernel
theorem dX11_bestDraw_130 : decode cX11_bestDraw 130 = .ok (.iload 9, 2) := by decide +kernel
theorem dX11_bestDraw_132 : decode cX11_bestDraw 132 = .ok (.istore 6, 2) := by decide +kernel
theorem dX11_bestDraw_134 : decode cX11_bestDraw 134 = .ok (.iinc 9 50, 3) := by decide +kernel
theorem dX11_bestDraw_137 : decode cX11_bestDraw 137 = .ok (.goto (-49), 3) := by decide +kernel
theorem dX11_bestDraw_140 : decode cX11_bestDraw 140 = .ok (.iload 6, 2) := by decide +kernel
theorem dX11_bestDraw_142 : decode cX11_bestDraw 142 = .ok (.ireturn, 1) := by decide +kernel
theorem dX11_forecast_0 : decode cX11_forecast 0 = .ok (.aload_n 0, 1) := by decide +kernel
theorem dX11_forecast_1 : decode cX11_forecast 1 = .ok (.getfield 12, 3) := by decide +kernel
theorem dX11_forecast_4 : decode cX11_forecast 4 = .ok (.iload_n 1, 1) := by decide +kernel
theorem dX11_forecast_5 : decode cX11_forecast 5 = .ok (.invokevirtual 41, 3) := by decide +kernel
theorem dX11_forecast_8 : decode cX11_forecast 8 = .ok (.ifCond .eq 14, 3) := by decide +kernel
theorem dX11_forecast_11 : decode cX11_forecast 11 = .ok (.iload_n 2, 1) := by decide +kernel
theorem dX11_forecast_12 : decode cX11_forecast 12 = .ok (.iconst 1, 1) := by decide +kernel
theorem dX11_forecast_13 : decode cX11_forecast 13 = .ok (.sipush 300, 3) := by decide +kernel
theorem dX11_forecast_16 : decode cX11_forecast 16 = .ok (.invokestatic 23, 3) := by decide +kernel
theorem dX11_forecast_19 : decode cX11_forecast 19 = .ok (.ifCond .ne 7, 3) := by decide +kernel
theorem dX11_forecast_22 : decode cX11_forecast 22 = .ok (.ldc2_w 171, 3) := by decide +kernel
theorem dX11_forecast_25 : decode cX11_forecast 25 = .ok (.lreturn, 1) := by decide +kernel
theorem dX11_forecast_26 : decode cX11_forecast 26 = .ok (.aload_n 0, 1) := by decide +kernel
theorem dX11_forecast_27 : decode cX11_forecast 27 = .ok (.getfield 12, 3) := by decide +kernel
theorem dX11_forecast_30 : decode cX11_forecast 30 = .ok (.getfield 134, 3) := by decide +kernel
theorem dX11_forecast_33 : decode cX11_forecast 33 = .ok (.ifCond .eq 26, 3) := by decide +kernel
theorem dX11_forecast_36 : decode cX11_forecast 36 = .ok (.aload_n 0, 1) := by decide +kernel
theorem dX11_forecast_37 : decode cX11_forecast 37 = .ok (.getfield 12, 3) := by decide +kernel
theorem dX11_forecast_40 : decode cX11_forecast 40 = .ok (.getfield 47, 3) := by decide +kernel
theorem dX11_forecast_43 : decode cX11_forecast 43 = .ok (.iload_n 1, 1) := by decide +kernel
theorem dX11_forecast_44 : decode cX11_forecast 44 = .ok (.aaload, 1) := by decide +kernel
theorem dX11_forecast_45 : decode cX11_forecast 45 = .ok (.aload_n 0, 1) := by decide +kernel
theorem dX11_forecast_46 : decode cX11_forecast 46 = .ok (.getfield 12, 3) := by decide +kernel
theorem dX11_forecast_49 : decode cX11_forecast 49 = .ok (.getfield 74, 3) := by decide +kernel
theorem dX11_forecast_52 : decode cX11_forecast 52 = .ok (.getfield 173, 3) := by decide +kernel
theorem dX11_forecast_55 : decode cX11_forecast 55 = .ok (.invokevirtual 176, 3) := by decide +kernel
theorem dX11_forecast_58 : decode cX11_forecast 58 = .ok (.lreturn, 1) := by decide +kernel
theorem dX11_forecast_59 : decode cX11_forecast 59 = .ok (.aload_n 0, 1) := by decide +kernel
theorem dX11_forecast_60 : decode cX11_forecast 60 = .ok (.getfield 18, 3) := by decide +kernel
theorem dX11_forecast_63 : decode cX11_forecast 63 = .ok (.aload_n 0, 1) := by decide +kernel
theorem dX11_forecast_64 : decode cX11_forecast 64 = .ok (.getfield 12, 3) := by decide +kernel
theorem dX11_forecast_67 : decode cX11_forecast 67 = .ok (.invokevirtual 262, 3) := by decide +kernel
theorem dX11_forecast_70 : decode cX11_forecast 70 = .ok (.lconst 0, 1) := by decide +kernel
theorem dX11_forecast_71 : decode cX11_forecast 71 = .ok (.lstore_n 3, 1) := by decide +kernel
theorem dX11_forecast_72 : decode cX11_forecast 72 = .ok (.iconst 0, 1) := by decide +kernel
theorem dX11_forecast_73 : decode cX11_forecast 73 = .ok (.istore 5, 2) := by decide +kernel
theorem dX11_forecast_75 : decode cX11_forecast 75 = .ok (.iload 5, 2) := by decide +kernel
theorem dX11_forecast_77 : decode cX11_forecast 77 = .ok (.iload_n 2, 1) := by decide +kernel
theorem dX11_forecast_78 : decode cX11_forecast 78 = .ok (.if_icmp .ge 43, 3) := by decide +kernel
theorem dX11_forecast_81 : decode cX11_forecast 81 = .ok (.aload_n 0, 1) := by decide +kernel
theorem dX11_forecast_82 : decode cX11_forecast 82 = .ok (.getfield 18, 3) := by decide +kernel
theorem dX11_forecast_85 : decode cX11_forecast 85 = .ok (.invokevirtual 131, 3) := by decide +kernel
theorem dX11_forecast_88 : decode cX11_forecast 88 = .ok (.lload_n 3, 1) := by decide +kernel
theorem dX11_forecast_89 : decode cX11_forecast 89 = .ok (.aload_n 0, 1) := by decide +kernel
theorem dX11_forecast_90 : decode cX11_forecast 90 = .ok (.getfield 18, 3) := by decide +kernel
theorem dX11_forecast_93 : decode cX11_forecast 93 = .ok (.getfield 47, 3) := by decide +kernel
theorem dX11_forecast_96 : decode cX11_forecast 96 = .ok (.iload_n 1, 1) := by decide +kernel
theorem dX11_forecast_97 : decode cX11_forecast 97 = .ok (.aaload, 1) := by decide +kernel
theorem dX11_forecast_98 : decode cX11_forecast 98 = .ok (.aload_n 0, 1) := by decide +kernel
theorem dX11_forecast_99 : decode cX11_forecast 99 = .ok (.getfield 18, 3) := by decide +kernel
theorem dX11_forecast_102 : decode cX11_forecast 102 = .ok (.getfield 74, 3) := by decide +kernel
theorem dX11_forecast_105 : decode cX11_forecast 105 = .ok (.getfield 173, 3) := by decide +kernel
theorem dX11_forecast_108 : decode cX11_forecast 108 = .ok (.invokevirtual 176, 3) := by decide +kernel
theorem dX11_forecast_111 : decode cX11_forecast 111 = .ok (.invokestatic 266, 3) := by decide +kernel
theorem dX11_forecast_114 : decode cX11_forecast 114 = .ok (.lstore_n 3, 1) := by decide +kernel
theorem dX11_forecast_115 : decode cX11_forecast 115 = .ok (.iinc 5 1, 3) := by decide +kernel
theorem dX11_forecast_118 : decode cX11_forecast 118 = .ok (.goto (-43), 3) := by decide +kernel
theorem dX11_forecast_121 : decode cX11_forecast 121 = .ok (.lload_n 3, 1) := by decide +kernel
theorem dX11_forecast_122 : decode cX11_forecast 122 = .ok (.lreturn, 1) := by decide +kernel
theorem dX11_outlook_0 : decode cX11_outlook 0 = .ok (.iload_n 1, 1) := by decide +kernel
theorem dX11_outlook_1 : decode cX11_outlook 1 = .ok (.iconst 1, 1) := by decide +kernel
theorem dX11_outlook_2 : decode cX11_outlook 2 = .ok (.sipush 300, 3) := by decide +kernel
theorem dX11_outlook_5 : decode cX11_outlook 5 = .ok (.invokestatic 23, 3) := by decide +kernel
theorem dX11_outlook_8 : decode cX11_outlook 8 = .ok (.ifCond .ne 6, 3) := by decide +kernel
theorem dX11_outlook_11 : decode cX11_outlook 11 = .ok (.ldc 27, 2) := by decide +kernel
theorem dX11_outlook_13 : decode cX11_outlook 13 = .ok (.ireturn, 1) := by decide +kernel
theorem dX11_outlook_14 : decode cX11_outlook 14 = .ok (.aload_n 0, 1) := by decide +kernel
theorem dX11_outlook_15 : decode cX11_outlook 15 = .ok (.getfield 12, 3) := by decide +kernel
theorem dX11_outlook_18 : decode cX11_outlook 18 = .ok (.getfield 134, 3) := by decide +kernel
theorem dX11_outlook_21 : decode cX11_outlook 21 = .ok (.ifCond .eq 11, 3) := by decide +kernel
theorem dX11_outlook_24 : decode cX11_outlook 24 = .ok (.aload_n 0, 1) := by decide +kernel
theorem dX11_outlook_25 : decode cX11_outlook 25 = .ok (.getfield 12, 3) := by decide +kernel
theorem dX11_outlook_28 : decode cX11_outlook 28 = .ok (.getfield 134, 3) := by decide +kernel
theorem dX11_outlook_31 : decode cX11_outlook 31 = .ok (.ireturn, 1) := by decide +kernel
theorem dX11_outlook_32 : decode cX11_outlook 32 = .ok (.aload_n 0, 1) := by decide +kernel
theorem dX11_outlook_33 : decode cX11_outlook 33 = .ok (.getfield 18, 3) := by decide +kernel
theorem dX11_outlook_36 : decode cX11_outlook 36 = .ok (.aload_n 0, 1) := by decide +kernel
theorem dX11_outlook_37 : decode cX11_outlook 37 = .ok (.getfield 12, 3) := by decide +kernel
theorem dX11_outlook_40 : decode cX11_outlook 40 = .ok (.invokevirtual 262, 3) := by decide +kernel
theorem dX11_outlook_43 : decode cX11_outlook 43 = .ok (.iconst 1, 1) := by decide +kernel
theorem dX11_outlook_44 : decode cX11_outlook 44 = .ok (.istore_n 2, 1) := by decide +kernel
theorem dX11_outlook_45 : decode cX11_outlook 45 = .ok (.iload_n 2, 1) := by decide +kernel
theorem dX11_outlook_46 : decode cX11_outlook 46 = .ok (.iload_n 1, 1) := by decide +kernel
theorem dX11_outlook_47 : decode cX11_outlook 47 = .ok (.if_icmp .gt 39, 3) := by decide +kernel
theorem dX11_outlook_50 : decode cX11_outlook 50 = .ok (.aload_n 0, 1) := by decide +kernel
theorem dX11_outlook_51 : decode cX11_outlook 51 = .ok (.getfield 18, 3) := by decide +kernel
theorem dX11_outlook_54 : decode cX11_outlook 54 = .ok (.invokevirtual 131, 3) := by decide +kernel
theorem dX11_outlook_57 : decode cX11_outlook 57 = .ok (.aload_n 0, 1) := by decide +kernel
theorem dX11_outlook_58 : decode cX11_outlook 58 = .ok (.getfield 18, 3) := by decide +kernel
theorem dX11_outlook_61 : decode cX11_outlook 61 = .ok (.getfield 134, 3) := by decide +kernel
theorem dX11_outlook_64 : decode cX11_outlook 64 = .ok (.ifCond .eq 16, 3) := by decide +kernel
theorem dX11_outlook_67 : decode cX11_outlook 67 = .ok (.bipush 10, 2) := by decide +kernel
theorem dX11_outlook_69 : decode cX11_outlook 69 = .ok (.iload_n 2, 1) := by decide +kernel
theorem dX11_outlook_70 : decode cX11_outlook 70 = .ok (.imul, 1) := by decide +kernel
theorem dX11_outlook_71 : decode cX11_outlook 71 = .ok (.aload_n 0, 1) := by decide +kernel
theorem dX11_outlook_72 : decode cX11_outlook 72 = .ok (.getfield 18, 3) := by decide +kernel
theorem dX11_outlook_75 : decode cX11_outlook 75 = .ok (.getfield 134, 3) := by decide +kernel
theorem dX11_outlook_78 : decode cX11_outlook 78 = .ok (.iadd, 1) := by decide +kernel
theorem dX11_outlook_79 : decode cX11_outlook 79 = .ok (.ireturn, 1) := by decide +kernel
theorem dX11_outlook_80 : decode cX11_outlook 80 = .ok (.iinc 2 1, 3) := by decide +kernel
theorem dX11_outlook_83 : decode cX11_outlook 83 = .ok (.goto (-38), 3) := by decide +kernel
theorem dX11_outlook_86 : decode cX11_outlook 86 = .ok (.iconst 0, 1) := by decide +kernel
theorem dX11_outlook_87 : decode cX11_outlook 87 = .ok (.ireturn, 1) := by decide +kernel
theorem dX11_isWithin_0 : decode cX11_isWithin 0 = .ok (.iload_n 0, 1) := by decide +kernel
theorem dX11_isWithin_1 : decode cX11_isWithin 1 = .ok (.iload_n 1, 1) := by decide +kernel
theorem dX11_isWithin_2 : decode cX11_isWithin 2 = .ok (.if_icmp .lt 12, 3) := by decide +kernel
theorem dX11_isWithin_5 : decode cX11_isWithin 5 = .ok (.iload_n 0, 1) := by decide +kernel
theorem dX11_isWithin_6 : decode cX11_isWithin 6 = .ok (.iload_n 2, 1) := by decide +kernel
theorem dX11_isWithin_7 : decode cX11_isWithin 7 = .ok (.if_icmp .gt 7, 3) := by decide +kernel
theorem dX11_isWithin_10 : decode cX11_isWithin 10 = .ok (.iconst 1, 1) := by decide +kernel
theorem dX11_isWithin_11 : decode cX11_isWithin 11 = .ok (.goto 4, 3) := by decide +kernel
theorem dX11_isWithin_14 : decode cX11_isWithin 14 = .ok (.iconst 0, 1) := by decide +kernel
theorem dX11_isWithin_15 : decode cX11_isWithin 15 = .ok (.ireturn, 1) := by decide +kernel
theorem dX11_limit_0 : decode cX11_limit 0 = .ok (.lload_n 2, 1) := by decide +kernel
theorem dX11_limit_1 : decode cX11_limit 1 = .ok (.lload 4, 2) := by decide +kernel
theorem dX11_limit_3 : decode cX11_limit 3 = .ok (.lload_n 0, 1) := by decide +kernel
theorem dX11_limit_4 : decode cX11_limit 4 = .ok (.invokestatic 271, 3) := by decide +kernel
theorem dX11_limit_7 : decode cX11_limit 7 = .ok (.invokestatic 266, 3) := by decide +kernel
theorem dX11_limit_10 : decode cX11_limit 10 = .ok (.lreturn, 1) := by decide +kernel
theorem dX11_quotient_0 : decode cX11_quotient 0 = .ok (.lload_n 2, 1) := by decide +kernel
theorem dX11_quotient_1 : decode cX11_quotient 1 = .ok (.lconst 0, 1) := by decide +kernel
theorem dX11_quotient_2 : decode cX11_quotient 2 = .ok (.lcmp, 1) := by decide +kernel
theorem dX11_quotient_3 : decode cX11_quotient 3 = .ok (.ifCond .gt 7, 3) := by decide +kernel
theorem dX11_quotient_6 : decode cX11_quotient 6 = .ok (.lconst 0, 1) := by decide +kernel
theorem dX11_quotient_7 : decode cX11_quotient 7 = .ok (.goto 8, 3) := by decide +kernel
theorem dX11_quotient_10 : decode cX11_quotient 10 = .ok (.lload_n 0, 1) := by decide +kernel
theorem dX11_quotient_11 : decode cX11_quotient 11 = .ok (.lload_n 2, 1) := by decide +kernel
theorem dX11_quotient_12 : decode cX11_quotient 12 = .ok (.invokestatic 274, 3) := by decide +kernel
theorem dX11_quotient_15 : decode cX11_quotient 15 = .ok (.lreturn, 1) := by decide +kernel
theorem dX11_drawn_0 : decode cX11_drawn 0 = .ok (.lload_n 0, 1) := by decide +kernel
theorem dX11_drawn_1 : decode cX11_drawn 1 = .ok (.ldc2_w 277, 3) := by decide +kernel
theorem dX11_drawn_4 : decode cX11_drawn 4 = .ok (.iload_n 2, 1) := by decide +kernel
theorem dX11_drawn_5 : decode cX11_drawn 5 = .ok (.i2l, 1) := by decide +kernel
theorem dX11_drawn_6 : decode cX11_drawn 6 = .ok (.ladd, 1) := by decide +kernel
theorem dX11_drawn_7 : decode cX11_drawn 7 = .ok (.lmul, 1) := by decide +kernel
theorem dX11_drawn_8 : decode cX11_drawn 8 = .ok (.ldc2_w 277, 3) := by decide +kernel
theorem dX11_drawn_11 : decode cX11_drawn 11 = .ok (.invokestatic 274, 3) := by decide +kernel
theorem dX11_drawn_14 : decode cX11_drawn 14 = .ok (.lreturn, 1) := by decide +kernel
theorem dX12_init_0 : decode cX12_init 0 = .ok (.aload_n 0, 1) := by decide +kernel
theorem dX12_init_1 : decode cX12_init 1 = .ok (.invokespecial 1, 3) := by decide +kernel
theorem dX12_init_4 : decode cX12_init 4 = .ok (.aload_n 0, 1) := by decide +kernel
theorem dX12_init_5 : decode cX12_init 5 = .ok (.bipush 6, 2) := by decide +kernel
theorem dX12_init_7 : decode cX12_init 7 = .ok (.newarray .long, 2) := by decide +kernel
theorem dX12_init_9 : decode cX12_init 9 = .ok (.putfield 7, 3) := by decide +kernel
theorem dX12_init_12 : decode cX12_init 12 = .ok (.aload_n 0, 1) := by decide +kernel
theorem dX12_init_13 : decode cX12_init 13 = .ok (.bipush 6, 2) := by decide +kernel
theorem dX12_init_15 : decode cX12_init 15 = .ok (.newarray .int, 2) := by decide +kernel
theorem dX12_init_17 : decode cX12_init 17 = .ok (.putfield 13, 3) := by decide +kernel
theorem dX12_init_20 : decode cX12_init 20 = .ok (.aload_n 0, 1) := by decide +kernel
theorem dX12_init_21 : decode cX12_init 21 = .ok (.bipush 6, 2) := by decide +kernel
theorem dX12_init_23 : decode cX12_init 23 = .ok (.newarray .long, 2) := by decide +kernel
theorem dX12_init_25 : decode cX12_init 25 = .ok (.putfield 17, 3) := by decide +kernel
theorem dX12_init_28 : decode cX12_init 28 = .ok (.aload_n 0, 1) := by decide +kernel
theorem dX12_init_29 : decode cX12_init 29 = .ok (.bipush 6, 2) := by decide +kernel
theorem dX12_init_31 : decode cX12_init 31 = .ok (.newarray .long, 2) := by decide +kernel
theorem dX12_init_33 : decode cX12_init 33 = .ok (.putfield 20, 3) := by decide +kernel
theorem dX12_init_36 : decode cX12_init 36 = .ok (.aload_n 0, 1) := by decide +kernel
theorem dX12_init_37 : decode cX12_init 37 = .ok (.bipush 6, 2) := by decide +kernel
theorem dX12_init_39 : decode cX12_init 39 = .ok (.newarray .long, 2) := by decide +kernel
theorem dX12_init_41 : decode cX12_init 41 = .ok (.putfield 23, 3) := by decide +kernel
theorem dX12_init_44 : decode cX12_init 44 = .ok (.aload_n 0, 1) := by decide +kernel
theorem dX12_init_45 : decode cX12_init 45 = .ok (.bipush 6, 2) := by decide +kernel
theorem dX12_init_47 : decode cX12_init 47 = .ok (.newarray .long, 2) := by decide +kernel
theorem dX12_init_49 : decode cX12_init 49 = .ok (.putfield 26, 3) := by decide +kernel
theorem dX12_init_52 : decode cX12_init 52 = .ok (.aload_n 0, 1) := by decide +kernel
theorem dX12_init_53 : decode cX12_init 53 = .ok (.bipush 6, 2) := by decide +kernel
theorem dX12_init_55 : decode cX12_init 55 = .ok (.newarray .long, 2) := by decide +kernel
theorem dX12_init_57 : decode cX12_init 57 = .ok (.putfield 29, 3) := by decide +kernel
theorem dX12_init_60 : decode cX12_init 60 = .ok (.aload_n 0, 1) := by decide +kernel
theorem dX12_init_61 : decode cX12_init 61 = .ok (.bipush 6, 2) := by decide +kernel
theorem dX12_init_63 : decode cX12_init 63 = .ok (.newarray .long, 2) := by decide +kernel
theorem dX12_init_65 : decode cX12_init 65 = .ok (.putfield 32, 3) := by decide +kernel
theorem dX12_init_68 : decode cX12_init 68 = .ok (.aload_n 0, 1) := by decide +kernel
theorem dX12_init_69 : decode cX12_init 69 = .ok (.bipush 6, 2) := by decide +kernel
theorem dX12_init_71 : decode cX12_init 71 = .ok (.newarray .long, 2) := by decide +kernel
theorem dX12_init_73 : decode cX12_init 73 = .ok (.putfield 35, 3) := by decide +kernel
theorem dX12_init_76 : decode cX12_init 76 = .ok (.aload_n 0, 1) := by decide +kernel
theorem dX12_init_77 : decode cX12_init 77 = .ok (.bipush 6, 2) := by decide +kernel
theorem dX12_init_79 : decode cX12_init 79 = .ok (.newarray .long, 2) := by decide +kernel
theorem dX12_init_81 : decode cX12_init 81 = .ok (.putfield 38, 3) := by decide +kernel
theorem dX12_init_84 : decode cX12_init 84 = .ok (.aload_n 0, 1) := by decide +kernel
theorem dX12_init_85 : decode cX12_init 85 = .ok (.bipush 64, 2) := by decide +kernel
theorem dX12_init_87 : decode cX12_init 87 = .ok (.newarray .long, 2) := by decide +kernel
theorem dX12_init_89 : decode cX12_init 89 = .ok (.putfield 41, 3) := by decide +kernel
theorem dX12_init_92 : decode cX12_init 92 = .ok (.aload_n 0, 1) := by decide +kernel
theorem dX12_init_93 : decode cX12_init 93 = .ok (.bipush 64, 2) := by decide +kernel
theorem dX12_init_95 : decode cX12_init 95 = .ok (.newarray .long, 2) := by decide +kernel
theorem dX12_init_97 : decode cX12_init 97 = .ok (.putfield 44, 3) := by decide +kernel
theorem dX12_init_100 : decode cX12_init 100 = .ok (.aload_n 0, 1) := by decide +kernel
theorem dX12_init_101 : decode cX12_init 101 = .ok (.bipush 90, 2) := by decide +kernel
theorem dX12_init_103 : decode cX12_init 103 = .ok (.newarray .long, 2) := by decide +kernel
theorem dX12_init_105 : decode cX12_init 105 = .ok (.putfield 47, 3) := by decide +kernel
theorem dX12_init_108 : decode cX12_init 108 = .ok (.aload_n 0, 1) := by decide +kernel
theorem dX12_init_109 : decode cX12_init 109 = .ok (.bipush 90, 2) := by decide +kernel
theorem dX12_init_111 : decode cX12_init 111 = .ok (.newarray .long, 2) := by decide +kernel
theorem dX12_init_113 : decode cX12_init 113 = .ok (.putfield 50, 3) := by decide +kernel
theorem dX12_init_116 : decode cX12_init 116 = .ok (.aload_n 0, 1) := by decide +kernel
theorem dX12_init_117 : decode cX12_init 117 = .ok (.sipush 512, 3) := by decide +kernel
theorem dX12_init_120 : decode cX12_init 120 = .ok (.newarray .long, 2) := by decide +kernel
theorem dX12_init_122 : decode cX12_init 122 = .ok (.putfield 53, 3) := by decide +kernel
theorem dX12_init_125 : decode cX12_init 125 = .ok (.aload_n 0, 1) := by decide +kernel
theorem dX12_init_126 : decode cX12_init 126 = .ok (.sipush 512, 3) := by decide +kernel
theorem dX12_init_129 : decode cX12_init 129 = .ok (.newarray .long, 2) := by decide +kernel
theorem dX12_init_131 : decode cX12_init 131 = .ok (.putfield 56, 3) := by decide +kernel
theorem dX12_init_134 : decode cX12_init 134 = .ok (.aload_n 0, 1) := by decide +kernel
theorem dX12_init_135 : decode cX12_init 135 = .ok (.bipush 7, 2) := by decide +kernel
theorem dX12_init_137 : decode cX12_init 137 = .ok (.newarray .long, 2) := by decide +kernel
theorem dX12_init_139 : decode cX12_init 139 = .ok (.putfield 59, 3) := by decide +kernel
theorem dX12_init_142 : decode cX12_init 142 = .ok (.aload_n 0, 1) := by decide +kernel
theorem dX12_init_143 : decode cX12_init 143 = .ok (.ldc 62, 2) := by decide +kernel
theorem dX12_init_145 : decode cX12_init 145 = .ok (.invokevirtual 63, 3) := by decide +kernel
theorem dX12_init_148 : decode cX12_init 148 = .ok (.return_, 1) := by decide +kernel
theorem dX12_in_0 : decode cX12_in 0 = .ok (.lload_n 0, 1) := by decide +kernel
theorem dX12_in_1 : decode cX12_in 1 = .ok (.lload_n 2, 1) := by decide +kernel
theorem dX12_in_2 : decode cX12_in 2 = .ok (.lcmp, 1) := by decide +kernel
theorem dX12_in_3 : decode cX12_in 3 = .ok (.ifCond .lt 14, 3) := by decide +kernel
theorem dX12_in_6 : decode cX12_in 6 = .ok (.lload_n 0, 1) := by decide +kernel
theorem dX12_in_7 : decode cX12_in 7 = .ok (.lload 4, 2) := by decide +kernel
theorem dX12_in_9 : decode cX12_in 9 = .ok (.lcmp, 1) := by decide +kernel
theorem dX12_in_10 : decode cX12_in 10 = .ok (.ifCond .gt 7, 3) := by decide +kernel
theorem dX12_in_13 : decode cX12_in 13 = .ok (.iconst 1, 1) := by decide +kernel
theorem dX12_in_14 : decode cX12_in 14 = .ok (.goto 4, 3) := by decide +kernel
theorem dX12_in_17 : decode cX12_in 17 = .ok (.iconst 0, 1) := by decide +kernel
theorem dX12_in_18 : decode cX12_in 18 = .ok (.ireturn, 1) := by decide +kernel
theorem dX12_lost_0 : decode cX12_lost 0 = .ok (.ldc2_w 67, 3) := by decide +kernel
theorem dX12_lost_3 : decode cX12_lost 3 = .ok (.lreturn, 1) := by decide +kernel
theorem dX12_down_0 : decode cX12_down 0 = .ok (.lload_n 0, 1) := by decide +kernel
theorem dX12_down_1 : decode cX12_down 1 = .ok (.lload_n 2, 1) := by decide +kernel
theorem dX12_down_2 : decode cX12_down 2 = .ok (.ldiv, 1) := by decide +kernel
theorem dX12_down_3 : decode cX12_down 3 = .ok (.lstore 4, 2) := by decide +kernel
theorem dX12_down_5 : decode cX12_down 5 = .ok (.lload 4, 2) := by decide +kernel
theorem dX12_down_7 : decode cX12_down 7 = .ok (.lload_n 2, 1) := by decide +kernel
theorem dX12_down_8 : decode cX12_down 8 = .ok (.lmul, 1) := by decide +kernel
theorem dX12_down_9 : decode cX12_down 9 = .ok (.lload_n 0, 1) := by decide +kernel
theorem dX12_down_10 : decode cX12_down 10 = .ok (.lcmp, 1) := by decide +kernel
theorem dX12_down_11 : decode cX12_down 11 = .ok (.ifCond .le 10, 3) := by decide +kernel
theorem dX12_down_14 : decode cX12_down 14 = .ok (.lload 4, 2) := by decide +kernel
theorem dX12_down_16 : decode cX12_down 16 = .ok (.lconst 1, 1) := by decide +kernel
theorem dX12_down_17 : decode cX12_down 17 = .ok (.lsub, 1) := by decide +kernel
theorem dX12_down_18 : decode cX12_down 18 = .ok (.goto 5, 3) := by decide +kernel
theorem dX12_down_21 : decode cX12_down 21 = .ok (.lload 4, 2) := by decide +kernel
theorem dX12_down_23 : decode cX12_down 23 = .ok (.lreturn, 1) := by decide +kernel
theorem dX12_kept_0 : decode cX12_kept 0 = .ok (.lload_n 0, 1) := by decide +kernel
theorem dX12_kept_1 : decode cX12_kept 1 = .ok (.lload_n 2, 1) := by decide +kernel
theorem dX12_kept_2 : decode cX12_kept 2 = .ok (.lcmp, 1) := by decide +kernel
theorem dX12_kept_3 : decode cX12_kept 3 = .ok (.ifCond .ge 7, 3) := by decide +kernel
theorem dX12_kept_6 : decode cX12_kept 6 = .ok (.lload_n 2, 1) := by decide +kernel
theorem dX12_kept_7 : decode cX12_kept 7 = .ok (.goto 16, 3) := by decide +kernel
theorem dX12_kept_10 : decode cX12_kept 10 = .ok (.lload_n 0, 1) := by decide +kernel
theorem dX12_kept_11 : decode cX12_kept 11 = .ok (.lload 4, 2) := by decide +kernel
theorem dX12_kept_13 : decode cX12_kept 13 = .ok (.lcmp, 1) := by decide +kernel
theorem dX12_kept_14 : decode cX12_kept 14 = .ok (.ifCond .le 8, 3) := by decide +kernel
theorem dX12_kept_17 : decode cX12_kept 17 = .ok (.lload 4, 2) := by decide +kernel
theorem dX12_kept_19 : decode cX12_kept 19 = .ok (.goto 4, 3) := by decide +kernel
theorem dX12_kept_22 : decode cX12_kept 22 = .ok (.lload_n 0, 1) := by decide +kernel
theorem dX12_kept_23 : decode cX12_kept 23 = .ok (.lreturn, 1) := by decide +kernel
theorem dX12_begin_0 : decode cX12_begin 0 = .ok (.iconst 0, 1) := by decide +kernel
theorem dX12_begin_1 : decode cX12_begin 1 = .ok (.istore_n 2, 1) := by decide +kernel
theorem dX12_begin_2 : decode cX12_begin 2 = .ok (.iload_n 2, 1) := by decide +kernel
theorem dX12_begin_3 : decode cX12_begin 3 = .ok (.bipush 64, 2) := by decide +kernel
theorem dX12_begin_5 : decode cX12_begin 5 = .ok (.if_icmp .ge 16, 3) := by decide +kernel
theorem dX12_begin_8 : decode cX12_begin 8 = .ok (.aload_n 0, 1) := by decide +kernel
theorem dX12_begin_9 : decode cX12_begin 9 = .ok (.getfield 41, 3) := by decide +kernel
theorem dX12_begin_12 : decode cX12_begin 12 = .ok (.iload_n 2, 1) := by decide +kernel
theorem dX12_begin_13 : decode cX12_begin 13 = .ok (.lconst 0, 1) := by decide +kernel
theorem dX12_begin_14 : decode cX12_begin 14 = .ok (.lastore, 1) := by decide +kernel
theorem dX12_begin_15 : decode cX12_begin 15 = .ok (.iinc 2 1, 3) := by decide +kernel
theorem dX12_begin_18 : decode cX12_begin 18 = .ok (.goto (-16), 3) := by decide +kernel
theorem dX12_begin_21 : decode cX12_begin 21 = .ok (.aload_n 0, 1) := by decide +kernel
theorem dX12_begin_22 : decode cX12_begin 22 = .ok (.iconst 0, 1) := by decide +kernel
theorem dX12_begin_23 : decode cX12_begin 23 = .ok (.putfield 69, 3) := by decide +kernel
theorem dX12_begin_26 : decode cX12_begin 26 = .ok (.aload_n 0, 1) := by decide +kernel
theorem dX12_begin_27 : decode cX12_begin 27 = .ok (.ldc2_w 73, 3) := by decide +kernel
theorem dX12_begin_30 : decode cX12_begin 30 = .ok (.putfield 75, 3) := by decide +kernel
theorem dX12_begin_33 : decode cX12_begin 33 = .ok (.aload_n 0, 1) := by decide +kernel
theorem dX12_begin_34 : decode cX12_begin 34 = .ok (.lconst 0, 1) := by decide +kernel
theorem dX12_begin_35 : decode cX12_begin 35 = .ok (.putfield 79, 3) := by decide +kernel
theorem dX12_begin_38 : decode cX12_begin 38 = .ok (.aload_n 0, 1) := by decide +kernel
theorem dX12_begin_39 : decode cX12_begin 39 = .ok (.ldc2_w 73, 3) := by decide +kernel
theorem dX12_begin_42 : decode cX12_begin 42 = .ok (.putfield 82, 3) := by decide +kernel
theorem dX12_begin_45 : decode cX12_begin 45 = .ok (.aload_n 0, 1) := by decide +kernel
theorem dX12_begin_46 : decode cX12_begin 46 = .ok (.ldc2_w 85, 3) := by decide +kernel
theorem dX12_begin_49 : decode cX12_begin 49 = .ok (.putfield 87, 3) := by decide +kernel
theorem dX12_begin_52 : decode cX12_begin 52 = .ok (.aload_n 0, 1) := by decide +kernel
theorem dX12_begin_53 : decode cX12_begin 53 = .ok (.lconst 0, 1) := by decide +kernel
theorem dX12_begin_54 : decode cX12_begin 54 = .ok (.putfield 90, 3) := by decide +kernel
theorem dX12_begin_57 : decode cX12_begin 57 = .ok (.aload_n 0, 1) := by decide +kernel
theorem dX12_begin_58 : decode cX12_begin 58 = .ok (.ldc2_w 93, 3) := by decide +kernel
theorem dX12_begin_61 : decode cX12_begin 61 = .ok (.putfield 95, 3) := by decide +kernel
theorem dX12_begin_64 : decode cX12_begin 64 = .ok (.aload_n 0, 1) := by decide +kernel
theorem dX12_begin_65 : decode cX12_begin 65 = .ok (.ldc2_w 98, 3) := by decide +kernel
theorem dX12_begin_68 : decode cX12_begin 68 = .ok (.putfield 100, 3) := by decide +kernel
theorem dX12_begin_71 : decode cX12_begin 71 = .ok (.aload_n 0, 1) := by decide +kernel
theorem dX12_begin_72 : decode cX12_begin 72 = .ok (.lconst 0, 1) := by decide +kernel
theorem dX12_begin_73 : decode cX12_begin 73 = .ok (.putfield 103, 3) := by decide +kernel
theorem dX12_begin_76 : decode cX12_begin 76 = .ok (.aload_n 0, 1) := by decide +kernel
theorem dX12_begin_77 : decode cX12_begin 77 = .ok (.ldc2_w 106, 3) := by decide +kernel
theorem dX12_begin_80 : decode cX12_begin 80 = .ok (.putfield 108, 3) := by decide +kernel
theorem dX12_begin_83 : decode cX12_begin 83 = .ok (.aload_n 0, 1) := by decide +kernel
theorem dX12_begin_84 : decode cX12_begin 84 = .ok (.iload_n 1, 1) := by decide +kernel
theorem dX12_begin_85 : decode cX12_begin 85 = .ok (.invokevirtual 111, 3) := by decide +kernel
theorem dX12_begin_88 : decode cX12_begin 88 = .ok (.return_, 1) := by decide +kernel
theorem dX12_append_0 : decode cX12_append 0 = .ok (.aload_n 0, 1) := by decide +kernel
theorem dX12_append_1 : decode cX12_append 1 = .ok (.getfield 7, 3) := by decide +kernel
theorem dX12_append_4 : decode cX12_append 4 = .ok (.aload_n 0, 1) := by decide +kernel
theorem dX12_append_5 : decode cX12_append 5 = .ok (.getfield 69, 3) := by decide +kernel
theorem dX12_append_8 : decode cX12_append 8 = .ok (.iload_n 1, 1) := by decide +kernel
theorem dX12_append_9 : decode cX12_append 9 = .ok (.i2l, 1) := by decide +kernel
theorem dX12_append_10 : decode cX12_append 10 = .ok (.lastore, 1) := by decide +kernel
theorem dX12_append_11 : decode cX12_append 11 = .ok (.aload_n 0, 1) := by decide +kernel
theorem dX12_append_12 : decode cX12_append 12 = .ok (.getfield 13, 3) := by decide +kernel
theorem dX12_append_15 : decode cX12_append 15 = .ok (.aload_n 0, 1) := by decide +kernel
theorem dX12_append_16 : decode cX12_append 16 = .ok (.getfield 69, 3) := by decide +kernel
theorem dX12_append_19 : decode cX12_append 19 = .ok (.iconst 0, 1) := by decide +kernel
theorem dX12_append_20 : decode cX12_append 20 = .ok (.iastore, 1) := by decide +kernel
theorem dX12_append_21 : decode cX12_append 21 = .ok (.aload_n 0, 1) := by decide +kernel
theorem dX12_append_22 : decode cX12_append 22 = .ok (.getfield 38, 3) := by decide +kernel
theorem dX12_append_25 : decode cX12_append 25 = .ok (.aload_n 0, 1) := by decide +kernel
theorem dX12_append_26 : decode cX12_append 26 = .ok (.getfield 69, 3) := by decide +kernel
theorem dX12_append_29 : decode cX12_append 29 = .ok (.lconst 0, 1) := by decide +kernel
theorem dX12_append_30 : decode cX12_append 30 = .ok (.lastore, 1) := by decide +kernel
theorem dX12_append_31 : decode cX12_append 31 = .ok (.iconst 0, 1) := by decide +kernel
theorem dX12_append_32 : decode cX12_append 32 = .ok (.istore_n 2, 1) := by decide +kernel
theorem dX12_append_33 : decode cX12_append 33 = .ok (.iload_n 2, 1) := by decide +kernel
theorem dX12_append_34 : decode cX12_append 34 = .ok (.bipush 8, 2) := by decide +kernel
theorem dX12_append_36 : decode cX12_append 36 = .ok (.if_icmp .ge 24, 3) := by decide +kernel
theorem dX12_append_39 : decode cX12_append 39 = .ok (.aload_n 0, 1) := by decide +kernel
theorem dX12_append_40 : decode cX12_append 40 = .ok (.getfield 41, 3) := by decide +kernel
theorem dX12_append_43 : decode cX12_append 43 = .ok (.bipush 8, 2) := by decide +kernel
theorem dX12_append_45 : decode cX12_append 45 = .ok (.aload_n 0, 1) := by decide +kernel
theorem dX12_append_46 : decode cX12_append 46 = .ok (.getfield 69, 3) := by decide +kernel
theorem dX12_append_49 : decode cX12_append 49 = .ok (.imul, 1) := by decide +kernel
theorem dX12_append_50 : decode cX12_append 50 = .ok (.iload_n 2, 1) := by decide +kernel
theorem dX12_append_51 : decode cX12_append 51 = .ok (.iadd, 1) := by decide +kernel
theorem dX12_append_52 : decode cX12_append 52 = .ok (.lconst 0, 1) := by decide +kernel
theorem dX12_append_53 : decode cX12_append 53 = .ok (.lastore, 1) := by decide +kernel
theorem dX12_append_54 : decode cX12_append 54 = .ok (.iinc 2 1, 3) := by decide +kernel
theorem dX12_append_57 : decode cX12_append 57 = .ok (.goto (-24), 3) := by decide +kernel
theorem dX12_append_60 : decode cX12_append 60 = .ok (.aload_n 0, 1) := by decide +kernel
theorem dX12_append_61 : decode cX12_append 61 = .ok (.getfield 41, 3) := by decide +kernel
theorem dX12_append_64 : decode cX12_append 64 = .ok (.bipush 8, 2) := by decide +kernel
theorem dX12_append_66 : decode cX12_append 66 = .ok (.aload_n 0, 1) := by decide +kernel
theorem dX12_append_67 : decode cX12_append 67 = .ok (.getfield 69, 3) := by decide +kernel
theorem dX12_append_70 : decode cX12_append 70 = .ok (.imul, 1) := by decide +kernel
theorem dX12_append_71 : decode cX12_append 71 = .ok (.iconst 0, 1) := by decide +kernel
theorem dX12_append_72 : decode cX12_append 72 = .ok (.iadd, 1) := by decide +kernel
theorem dX12_append_73 : decode cX12_append 73 = .ok (.iload_n 1, 1) := by decide +kernel
theorem dX12_append_74 : decode cX12_append 74 = .ok (.i2l, 1) := by decide +kernel
theorem dX12_append_75 : decode cX12_append 75 = .ok (.lastore, 1) := by decide +kernel
theorem dX12_append_76 : decode cX12_append 76 = .ok (.aload_n 0, 1) := by decide +kernel
theorem dX12_append_77 : decode cX12_append 77 = .ok (.dup, 1) := by decide +kernel
theorem dX12_append_78 : decode cX12_append 78 = .ok (.getfield 69, 3) := by decide +kernel
theorem dX12_append_81 : decode cX12_append 81 = .ok (.iconst 1, 1) := by decide +kernel
theorem dX12_append_82 : decode cX12_append 82 = .ok (.iadd, 1) := by decide +kernel
theorem dX12_append_83 : decode cX12_append 83 = .ok (.putfield 69, 3) := by decide +kernel
theorem dX12_append_86 : decode cX12_append 86 = .ok (.return_, 1) := by decide +kernel
theorem dX12_isLength_0 : decode cX12_isLength 0 = .ok (.iload_n 0, 1) := by decide +kernel
theorem dX12_isLength_1 : decode cX12_isLength 1 = .ok (.i2l, 1) := by decide +kernel
theorem dX12_isLength_2 : decode cX12_isLength 2 = .ok (.ldc2_w 114, 3) := by decide +kernel
theorem dX12_isLength_5 : decode cX12_isLength 5 = .ok (.ldc2_w 116, 3) := by decide +kernel
theorem dX12_isLength_8 : decode cX12_isLength 8 = .ok (.invokestatic 118, 3) := by decide +kernel
theorem dX12_isLength_11 : decode cX12_isLength 11 = .ok (.ireturn, 1) := by decide +kernel
theorem dX12_reset_0 : decode cX12_reset 0 = .ok (.iload_n 1, 1) := by decide +kernel
theorem dX12_reset_1 : decode cX12_reset 1 = .ok (.invokestatic 122, 3) := by decide +kernel
theorem dX12_reset_4 : decode cX12_reset 4 = .ok (.ifCond .ne 6, 3) := by decide +kernel
theorem dX12_reset_7 : decode cX12_reset 7 = .ok (.ldc 126, 2) := by decide +kernel
theorem dX12_reset_9 : decode cX12_reset 9 = .ok (.ireturn, 1) := by decide +kernel
theorem dX12_reset_10 : decode cX12_reset 10 = .ok (.aload_n 0, 1) := by decide +kernel
theorem dX12_reset_11 : decode cX12_reset 11 = .ok (.getfield 41, 3) := by decide +kernel
theorem dX12_reset_14 : decode cX12_reset 14 = .ok (.bipush 48, 2) := by decide +kernel
theorem dX12_reset_16 : decode cX12_reset 16 = .ok (.laload, 1) := by decide +kernel
theorem dX12_reset_17 : decode cX12_reset 17 = .ok (.l2i, 1) := by decide +kernel
theorem dX12_reset_18 : decode cX12_reset 18 = .ok (.istore_n 2, 1) := by decide +kernel
theorem dX12_reset_19 : decode cX12_reset 19 = .ok (.aload_n 0, 1) := by decide +kernel
theorem dX12_reset_20 : decode cX12_reset 20 = .ok (.iload_n 1, 1) := by decide +kernel
theorem dX12_reset_21 : decode cX12_reset 21 = .ok (.invokevirtual 63, 3) := by decide +kernel
theorem dX12_reset_24 : decode cX12_reset 24 = .ok (.iload_n 2, 1) := by decide +kernel
theorem dX12_reset_25 : decode cX12_reset 25 = .ok (.ireturn, 1) := by decide +kernel
theorem dX12_addSpan_0 : decode cX12_addSpan 0 = .ok (.iload_n 1, 1) := by decide +kernel
theorem dX12_addSpan_1 : decode cX12_addSpan 1 = .ok (.invokestatic 122, 3) := by decide +kernel
theorem dX12_addSpan_4 : decode cX12_addSpan 4 = .ok (.ifCond .ne 6, 3) := by decide +kernel
theorem dX12_addSpan_7 : decode cX12_addSpan 7 = .ok (.ldc 126, 2) := by decide +kernel
theorem dX12_addSpan_9 : decode cX12_addSpan 9 = .ok (.ireturn, 1) := by decide +kernel
theorem dX12_addSpan_10 : decode cX12_addSpan 10 = .ok (.aload_n 0, 1) := by decide +kernel
theorem dX12_addSpan_11 : decode cX12_addSpan 11 = .ok (.getfield 41, 3) := by decide +kernel
theorem dX12_addSpan_14 : decode cX12_addSpan 14 = .ok (.bipush 48, 2) := by decide +kernel
theorem dX12_addSpan_16 : decode cX12_addSpan 16 = .ok (.laload, 1) := by decide +kernel
theorem dX12_addSpan_17 : decode cX12_addSpan 17 = .ok (.lconst 0, 1) := by decide +kernel
theorem dX12_addSpan_18 : decode cX12_addSpan 18 = .ok (.lcmp, 1) := by decide +kernel
theorem dX12_addSpan_19 : decode cX12_addSpan 19 = .ok (.ifCond .le 6, 3) := by decide +kernel
theorem dX12_addSpan_22 : decode cX12_addSpan 22 = .ok (.ldc 127, 2) := by decide +kernel
theorem dX12_addSpan_24 : decode cX12_addSpan 24 = .ok (.ireturn, 1) := by decide +kernel
theorem dX12_addSpan_25 : decode cX12_addSpan 25 = .ok (.aload_n 0, 1) := by decide +kernel
theorem dX12_addSpan_26 : decode cX12_addSpan 26 = .ok (.getfield 69, 3) := by decide +kernel
theorem dX12_addSpan_29 : decode cX12_addSpan 29 = .ok (.bipush 6, 2) := by decide +kernel
theorem dX12_addSpan_31 : decode cX12_addSpan 31 = .ok (.if_icmp .ne 6, 3) := by decide +kernel
theorem dX12_addSpan_34 : decode cX12_addSpan 34 = .ok (.ldc 128, 2) := by decide +kernel
theorem dX12_addSpan_36 : decode cX12_addSpan 36 = .ok (.ireturn, 1) := by decide +kernel
theorem dX12_addSpan_37 : decode cX12_addSpan 37 = .ok (.aload_n 0, 1) := by decide +kernel
theorem dX12_addSpan_38 : decode cX12_addSpan 38 = .ok (.iload_n 1, 1) := by decide +kernel
theorem dX12_addSpan_39 : decode cX12_addSpan 39 = .ok (.invokevirtual 111, 3) := by decide +kernel
theorem dX12_addSpan_42 : decode cX12_addSpan 42 = .ok (.aload_n 0, 1) := by decide +kernel
theorem dX12_addSpan_43 : decode cX12_addSpan 43 = .ok (.getfield 69, 3) := by decide +kernel
theorem dX12_addSpan_46 : decode cX12_addSpan 46 = .ok (.iconst 1, 1) := by decide +kernel
theorem dX12_addSpan_47 : decode cX12_addSpan 47 = .ok (.isub, 1) := by decide +kernel
theorem dX12_addSpan_48 : decode cX12_addSpan 48 = .ok (.ireturn, 1) := by decide +kernel
theorem dX12_noSpan_0 : decode cX12_noSpan 0 = .ok (.iload_n 1, 1) := by decide +kernel
theorem dX12_noSpan_1 : decode cX12_noSpan 1 = .ok (.i2l, 1) := by decide +kernel
theorem dX12_noSpan_2 : decode cX12_noSpan 2 = .ok (.lconst 0, 1) := by decide +kernel
theorem dX12_noSpan_3 : decode cX12_noSpan 3 = .ok (.aload_n 0, 1) := by decide +kernel
theorem dX12_noSpan_4 : decode cX12_noSpan 4 = .ok (.getfield 69, 3) := by decide +kernel
theorem dX12_noSpan_7 : decode cX12_noSpan 7 = .ok (.i2l, 1) := by decide +kernel
theorem dX12_noSpan_8 : decode cX12_noSpan 8 = .ok (.lconst 1, 1) := by decide +kernel
theorem dX12_noSpan_9 : decode cX12_noSpan 9 = .ok (.lsub, 1) := by decide +kernel
theorem dX12_noSpan_10 : decode cX12_noSpan 10 = .ok (.invokestatic 118, 3) := by decide +kernel
theorem dX12_noSpan_13 : decode cX12_noSpan 13 = .ok (.ifCond .ne 7, 3) := by decide +kernel
theorem dX12_noSpan_16 : decode cX12_noSpan 16 = .ok (.iconst 1, 1) := by decide +kernel
theorem dX12_noSpan_17 : decode cX12_noSpan 17 = .ok (.goto 4, 3) := by decide +kernel
theorem dX12_noSpan_20 : decode cX12_noSpan 20 = .ok (.iconst 0, 1) := by decide +kernel
theorem dX12_noSpan_21 : decode cX12_noSpan 21 = .ok (.ireturn, 1) := by decide +kernel
theorem dX12_length_0 : decode cX12_length 0 = .ok (.aload_n 0, 1) := by decide +kernel
theorem dX12_length_1 : decode cX12_length 1 = .ok (.getfield 7, 3) := by decide +kernel
theorem dX12_length_4 : decode cX12_length 4 = .ok (.iload_n 1, 1) := by decide +kernel
theorem dX12_length_5 : decode cX12_length 5 = .ok (.laload, 1) := by decide +kernel
theorem dX12_length_6 : decode cX12_length 6 = .ok (.aload_n 0, 1) := by decide +kernel
theorem dX12_length_7 : decode cX12_length 7 = .ok (.getfield 13, 3) := by decide +kernel
theorem dX12_length_10 : decode cX12_length 10 = .ok (.iload_n 1, 1) := by decide +kernel
theorem dX12_length_11 : decode cX12_length 11 = .ok (.iaload, 1) := by decide +kernel
theorem dX12_length_12 : decode cX12_length 12 = .ok (.iconst 1, 1) := by decide +kernel
theorem dX12_length_13 : decode cX12_length 13 = .ok (.if_icmp .ne 21, 3) := by decide +kernel
theorem dX12_length_16 : decode cX12_length 16 = .ok (.ldc2_w 129, 3) := by decide +kernel
theorem dX12_length_19 : decode cX12_length 19 = .ok (.aload_n 0, 1) := by decide +kernel
theorem dX12_length_20 : decode cX12_length 20 = .ok (.getfield 41, 3) := by decide +kernel
theorem dX12_length_23 : decode cX12_length 23 = .ok (.bipush 8, 2) := by decide +kernel
theorem dX12_length_25 : decode cX12_length 25 = .ok (.iload_n 1, 1) := by decide +kernel
theorem dX12_length_26 : decode cX12_length 26 = .ok (.imul, 1) := by decide +kernel
theorem dX12_length_27 : decode cX12_length 27 = .ok (.iconst 1, 1) := by decide +kernel
theorem dX12_length_28 : decode cX12_length 28 = .ok (.iadd, 1) := by decide +kernel
theorem dX12_length_29 : decode cX12_length 29 = .ok (.laload, 1) := by decide +kernel
theorem dX12_length_30 : decode cX12_length 30 = .ok (.lmul, 1) := by decide +kernel
theorem dX12_length_31 : decode cX12_length 31 = .ok (.goto 4, 3) := by decide +kernel
theorem dX12_length_34 : decode cX12_length 34 = .ok (.lconst 0, 1) := by decide +kernel
theorem dX12_length_35 : decode cX12_length 35 = .ok (.ladd, 1) := by decide +kernel
theorem dX12_length_36 : decode cX12_length 36 = .ok (.lreturn, 1) := by decide +kernel
theorem dX12_equip_0 : decode cX12_equip 0 = .ok (.aload_n 0, 1) := by decide +kernel
theorem dX12_equip_1 : decode cX12_equip 1 = .ok (.getfield 13, 3) := by decide +kernel
theorem dX12_equip_4 : decode cX12_equip 4 = .ok (.iload_n 1, 1) := by decide +kernel
theorem dX12_equip_5 : decode cX12_equip 5 = .ok (.iaload, 1) := by decide +kernel
theorem dX12_equip_6 : decode cX12_equip 6 = .ok (.ifCond .ne 7, 3) := by decide +kernel
theorem dX12_equip_9 : decode cX12_equip 9 = .ok (.iconst 0, 1) := by decide +kernel
theorem dX12_equip_10 : decode cX12_equip 10 = .ok (.goto 4, 3) := by decide +kernel
theorem dX12_equip_13 : decode cX12_equip 13 = .ok (.iconst 1, 1) := by decide +kernel
theorem dX12_equip_14 : decode cX12_equip 14 = .ok (.istore_n 3, 1) := by decide +kernel
theorem dX12_equip_15 : decode cX12_equip 15 = .ok (.aload_n 0, 1) := by decide +kernel
theorem dX12_equip_16 : decode cX12_equip 16 = .ok (.getfield 13, 3) := by decide +kernel
theorem dX12_equip_19 : decode cX12_equip 19 = .ok (.iload_n 1, 1) := by decide +kernel
theorem dX12_equip_20 : decode cX12_equip 20 = .ok (.iload_n 2, 1) := by decide +kernel
theorem dX12_equip_21 : decode cX12_equip 21 = .ok (.iastore, 1) := by decide +kernel
theorem dX12_equip_22 : decode cX12_equip 22 = .ok (.aload_n 0, 1) := by decide +kernel
theorem dX12_equip_23 : decode cX12_equip 23 = .ok (.getfield 41, 3) := by decide +kernel
theorem dX12_equip_26 : decode cX12_equip 26 = .ok (.bipush 8, 2) := by decide +kernel
theorem dX12_equip_28 : decode cX12_equip 28 = .ok (.iload_n 1, 1) := by decide +kernel
theorem dX12_equip_29 : decode cX12_equip 29 = .ok (.imul, 1) := by decide +kernel
theorem dX12_equip_30 : decode cX12_equip 30 = .ok (.iconst 1, 1) := by decide +kernel
theorem dX12_equip_31 : decode cX12_equip 31 = .ok (.iadd, 1) := by decide +kernel
theorem dX12_equip_32 : decode cX12_equip 32 = .ok (.iload_n 2, 1) := by decide +kernel
