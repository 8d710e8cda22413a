theorem dX0_init_0 : decode cX0_init 0 = .ok (.aload_n 0, 1) := by decide +kernel
theorem dX0_init_1 : decode cX0_init 1 = .ok (.invokespecial 3, 3) := by decide +kernel
theorem dX0_init_4 : decode cX0_init 4 = .ok (.return_, 1) := by decide +kernel
theorem dX0_begin_0 : decode cX0_begin 0 = .ok (.aload_n 0, 1) := by decide +kernel
theorem dX0_begin_1 : decode cX0_begin 1 = .ok (.iload_n 1, 1) := by decide +kernel
theorem dX0_begin_2 : decode cX0_begin 2 = .ok (.putfield 9, 3) := by decide +kernel
theorem dX0_begin_5 : decode cX0_begin 5 = .ok (.aload_n 0, 1) := by decide +kernel
theorem dX0_begin_6 : decode cX0_begin 6 = .ok (.iload_n 2, 1) := by decide +kernel
theorem dX0_begin_7 : decode cX0_begin 7 = .ok (.putfield 15, 3) := by decide +kernel
theorem dX0_begin_10 : decode cX0_begin 10 = .ok (.aload_n 0, 1) := by decide +kernel
theorem dX0_begin_11 : decode cX0_begin 11 = .ok (.iload_n 3, 1) := by decide +kernel
theorem dX0_begin_12 : decode cX0_begin 12 = .ok (.putfield 18, 3) := by decide +kernel
theorem dX0_begin_15 : decode cX0_begin 15 = .ok (.aload_n 0, 1) := by decide +kernel
theorem dX0_begin_16 : decode cX0_begin 16 = .ok (.iload 4, 2) := by decide +kernel
theorem dX0_begin_18 : decode cX0_begin 18 = .ok (.putfield 21, 3) := by decide +kernel
theorem dX0_begin_21 : decode cX0_begin 21 = .ok (.aload_n 0, 1) := by decide +kernel
theorem dX0_begin_22 : decode cX0_begin 22 = .ok (.iload 5, 2) := by decide +kernel
theorem dX0_begin_24 : decode cX0_begin 24 = .ok (.putfield 24, 3) := by decide +kernel
theorem dX0_begin_27 : decode cX0_begin 27 = .ok (.aload_n 0, 1) := by decide +kernel
theorem dX0_begin_28 : decode cX0_begin 28 = .ok (.invokevirtual 27, 3) := by decide +kernel
theorem dX0_begin_31 : decode cX0_begin 31 = .ok (.return_, 1) := by decide +kernel
theorem dX0_copyFrom_0 : decode cX0_copyFrom 0 = .ok (.aload_n 0, 1) := by decide +kernel
theorem dX0_copyFrom_1 : decode cX0_copyFrom 1 = .ok (.aload_n 1, 1) := by decide +kernel
theorem dX0_copyFrom_2 : decode cX0_copyFrom 2 = .ok (.getfield 9, 3) := by decide +kernel
theorem dX0_copyFrom_5 : decode cX0_copyFrom 5 = .ok (.putfield 9, 3) := by decide +kernel
theorem dX0_copyFrom_8 : decode cX0_copyFrom 8 = .ok (.aload_n 0, 1) := by decide +kernel
theorem dX0_copyFrom_9 : decode cX0_copyFrom 9 = .ok (.aload_n 1, 1) := by decide +kernel
theorem dX0_copyFrom_10 : decode cX0_copyFrom 10 = .ok (.getfield 15, 3) := by decide +kernel
theorem dX0_copyFrom_13 : decode cX0_copyFrom 13 = .ok (.putfield 15, 3) := by decide +kernel
theorem dX0_copyFrom_16 : decode cX0_copyFrom 16 = .ok (.aload_n 0, 1) := by decide +kernel
theorem dX0_copyFrom_17 : decode cX0_copyFrom 17 = .ok (.aload_n 1, 1) := by decide +kernel
theorem dX0_copyFrom_18 : decode cX0_copyFrom 18 = .ok (.getfield 18, 3) := by decide +kernel
theorem dX0_copyFrom_21 : decode cX0_copyFrom 21 = .ok (.putfield 18, 3) := by decide +kernel
theorem dX0_copyFrom_24 : decode cX0_copyFrom 24 = .ok (.aload_n 0, 1) := by decide +kernel
theorem dX0_copyFrom_25 : decode cX0_copyFrom 25 = .ok (.aload_n 1, 1) := by decide +kernel
theorem dX0_copyFrom_26 : decode cX0_copyFrom 26 = .ok (.getfield 21, 3) := by decide +kernel
theorem dX0_copyFrom_29 : decode cX0_copyFrom 29 = .ok (.putfield 21, 3) := by decide +kernel
theorem dX0_copyFrom_32 : decode cX0_copyFrom 32 = .ok (.aload_n 0, 1) := by decide +kernel
theorem dX0_copyFrom_33 : decode cX0_copyFrom 33 = .ok (.aload_n 1, 1) := by decide +kernel
theorem dX0_copyFrom_34 : decode cX0_copyFrom 34 = .ok (.getfield 24, 3) := by decide +kernel
theorem dX0_copyFrom_37 : decode cX0_copyFrom 37 = .ok (.putfield 24, 3) := by decide +kernel
theorem dX0_copyFrom_40 : decode cX0_copyFrom 40 = .ok (.aload_n 0, 1) := by decide +kernel
theorem dX0_copyFrom_41 : decode cX0_copyFrom 41 = .ok (.aload_n 1, 1) := by decide +kernel
theorem dX0_copyFrom_42 : decode cX0_copyFrom 42 = .ok (.getfield 30, 3) := by decide +kernel
theorem dX0_copyFrom_45 : decode cX0_copyFrom 45 = .ok (.putfield 30, 3) := by decide +kernel
theorem dX0_copyFrom_48 : decode cX0_copyFrom 48 = .ok (.aload_n 0, 1) := by decide +kernel
theorem dX0_copyFrom_49 : decode cX0_copyFrom 49 = .ok (.aload_n 1, 1) := by decide +kernel
theorem dX0_copyFrom_50 : decode cX0_copyFrom 50 = .ok (.getfield 33, 3) := by decide +kernel
theorem dX0_copyFrom_53 : decode cX0_copyFrom 53 = .ok (.putfield 33, 3) := by decide +kernel
theorem dX0_copyFrom_56 : decode cX0_copyFrom 56 = .ok (.return_, 1) := by decide +kernel
theorem dX0_centre_0 : decode cX0_centre 0 = .ok (.aload_n 0, 1) := by decide +kernel
theorem dX0_centre_1 : decode cX0_centre 1 = .ok (.aload_n 0, 1) := by decide +kernel
theorem dX0_centre_2 : decode cX0_centre 2 = .ok (.getfield 9, 3) := by decide +kernel
theorem dX0_centre_5 : decode cX0_centre 5 = .ok (.iconst 2, 1) := by decide +kernel
theorem dX0_centre_6 : decode cX0_centre 6 = .ok (.idiv, 1) := by decide +kernel
theorem dX0_centre_7 : decode cX0_centre 7 = .ok (.putfield 30, 3) := by decide +kernel
theorem dX0_centre_10 : decode cX0_centre 10 = .ok (.aload_n 0, 1) := by decide +kernel
theorem dX0_centre_11 : decode cX0_centre 11 = .ok (.iconst 0, 1) := by decide +kernel
theorem dX0_centre_12 : decode cX0_centre 12 = .ok (.putfield 33, 3) := by decide +kernel
theorem dX0_centre_15 : decode cX0_centre 15 = .ok (.return_, 1) := by decide +kernel
theorem dX0_error_0 : decode cX0_error 0 = .ok (.aload_n 0, 1) := by decide +kernel
theorem dX0_error_1 : decode cX0_error 1 = .ok (.getfield 30, 3) := by decide +kernel
theorem dX0_error_4 : decode cX0_error 4 = .ok (.aload_n 0, 1) := by decide +kernel
theorem dX0_error_5 : decode cX0_error 5 = .ok (.getfield 9, 3) := by decide +kernel
theorem dX0_error_8 : decode cX0_error 8 = .ok (.iconst 2, 1) := by decide +kernel
theorem dX0_error_9 : decode cX0_error 9 = .ok (.idiv, 1) := by decide +kernel
theorem dX0_error_10 : decode cX0_error 10 = .ok (.isub, 1) := by decide +kernel
theorem dX0_error_11 : decode cX0_error 11 = .ok (.ireturn, 1) := by decide +kernel
theorem dX0_move_0 : decode cX0_move 0 = .ok (.aload_n 0, 1) := by decide +kernel
theorem dX0_move_1 : decode cX0_move 1 = .ok (.getfield 15, 3) := by decide +kernel
theorem dX0_move_4 : decode cX0_move 4 = .ok (.i2l, 1) := by decide +kernel
theorem dX0_move_5 : decode cX0_move 5 = .ok (.ldc2_w 36, 3) := by decide +kernel
theorem dX0_move_8 : decode cX0_move 8 = .ok (.lload_n 1, 1) := by decide +kernel
theorem dX0_move_9 : decode cX0_move 9 = .ok (.lmul, 1) := by decide +kernel
theorem dX0_move_10 : decode cX0_move 10 = .ok (.lsub, 1) := by decide +kernel
theorem dX0_move_11 : decode cX0_move 11 = .ok (.aload_n 0, 1) := by decide +kernel
theorem dX0_move_12 : decode cX0_move 12 = .ok (.getfield 18, 3) := by decide +kernel
theorem dX0_move_15 : decode cX0_move 15 = .ok (.i2l, 1) := by decide +kernel
theorem dX0_move_16 : decode cX0_move 16 = .ok (.invokestatic 38, 3) := by decide +kernel
theorem dX0_move_19 : decode cX0_move 19 = .ok (.ldc2_w 42, 3) := by decide +kernel
theorem dX0_move_22 : decode cX0_move 22 = .ok (.ldc2_w 44, 3) := by decide +kernel
theorem dX0_move_25 : decode cX0_move 25 = .ok (.invokestatic 46, 3) := by decide +kernel
theorem dX0_move_28 : decode cX0_move 28 = .ok (.lstore_n 3, 1) := by decide +kernel
theorem dX0_move_29 : decode cX0_move 29 = .ok (.aload_n 0, 1) := by decide +kernel
theorem dX0_move_30 : decode cX0_move 30 = .ok (.aload_n 0, 1) := by decide +kernel
theorem dX0_move_31 : decode cX0_move 31 = .ok (.getfield 30, 3) := by decide +kernel
theorem dX0_move_34 : decode cX0_move 34 = .ok (.i2l, 1) := by decide +kernel
theorem dX0_move_35 : decode cX0_move 35 = .ok (.lload_n 3, 1) := by decide +kernel
theorem dX0_move_36 : decode cX0_move 36 = .ok (.ladd, 1) := by decide +kernel
theorem dX0_move_37 : decode cX0_move 37 = .ok (.lconst 0, 1) := by decide +kernel
theorem dX0_move_38 : decode cX0_move 38 = .ok (.aload_n 0, 1) := by decide +kernel
theorem dX0_move_39 : decode cX0_move 39 = .ok (.getfield 9, 3) := by decide +kernel
theorem dX0_move_42 : decode cX0_move 42 = .ok (.i2l, 1) := by decide +kernel
theorem dX0_move_43 : decode cX0_move 43 = .ok (.invokestatic 46, 3) := by decide +kernel
theorem dX0_move_46 : decode cX0_move 46 = .ok (.l2i, 1) := by decide +kernel
theorem dX0_move_47 : decode cX0_move 47 = .ok (.putfield 30, 3) := by decide +kernel
theorem dX0_move_50 : decode cX0_move 50 = .ok (.aload_n 0, 1) := by decide +kernel
theorem dX0_move_51 : decode cX0_move 51 = .ok (.aload_n 0, 1) := by decide +kernel
theorem dX0_move_52 : decode cX0_move 52 = .ok (.getfield 33, 3) := by decide +kernel
theorem dX0_move_55 : decode cX0_move 55 = .ok (.i2l, 1) := by decide +kernel
theorem dX0_move_56 : decode cX0_move 56 = .ok (.aload_n 0, 1) := by decide +kernel
theorem dX0_move_57 : decode cX0_move 57 = .ok (.invokevirtual 50, 3) := by decide +kernel
theorem dX0_move_60 : decode cX0_move 60 = .ok (.i2l, 1) := by decide +kernel
theorem dX0_move_61 : decode cX0_move 61 = .ok (.ladd, 1) := by decide +kernel
theorem dX0_move_62 : decode cX0_move 62 = .ok (.ldc2_w 54, 3) := by decide +kernel
theorem dX0_move_65 : decode cX0_move 65 = .ok (.ldc2_w 56, 3) := by decide +kernel
theorem dX0_move_68 : decode cX0_move 68 = .ok (.invokestatic 46, 3) := by decide +kernel
theorem dX0_move_71 : decode cX0_move 71 = .ok (.l2i, 1) := by decide +kernel
theorem dX0_move_72 : decode cX0_move 72 = .ok (.putfield 33, 3) := by decide +kernel
theorem dX0_move_75 : decode cX0_move 75 = .ok (.return_, 1) := by decide +kernel
theorem dX0_trim_0 : decode cX0_trim 0 = .ok (.aload_n 0, 1) := by decide +kernel
theorem dX0_trim_1 : decode cX0_trim 1 = .ok (.getfield 21, 3) := by decide +kernel
theorem dX0_trim_4 : decode cX0_trim 4 = .ok (.i2l, 1) := by decide +kernel
theorem dX0_trim_5 : decode cX0_trim 5 = .ok (.aload_n 0, 1) := by decide +kernel
theorem dX0_trim_6 : decode cX0_trim 6 = .ok (.invokevirtual 50, 3) := by decide +kernel
theorem dX0_trim_9 : decode cX0_trim 9 = .ok (.i2l, 1) := by decide +kernel
theorem dX0_trim_10 : decode cX0_trim 10 = .ok (.lmul, 1) := by decide +kernel
theorem dX0_trim_11 : decode cX0_trim 11 = .ok (.ldc2_w 58, 3) := by decide +kernel
theorem dX0_trim_14 : decode cX0_trim 14 = .ok (.invokestatic 60, 3) := by decide +kernel
theorem dX0_trim_17 : decode cX0_trim 17 = .ok (.aload_n 0, 1) := by decide +kernel
theorem dX0_trim_18 : decode cX0_trim 18 = .ok (.getfield 24, 3) := by decide +kernel
theorem dX0_trim_21 : decode cX0_trim 21 = .ok (.i2l, 1) := by decide +kernel
theorem dX0_trim_22 : decode cX0_trim 22 = .ok (.aload_n 0, 1) := by decide +kernel
theorem dX0_trim_23 : decode cX0_trim 23 = .ok (.getfield 33, 3) := by decide +kernel
theorem dX0_trim_26 : decode cX0_trim 26 = .ok (.i2l, 1) := by decide +kernel
theorem dX0_trim_27 : decode cX0_trim 27 = .ok (.lmul, 1) := by decide +kernel
theorem dX0_trim_28 : decode cX0_trim 28 = .ok (.ldc2_w 56, 3) := by decide +kernel
theorem dX0_trim_31 : decode cX0_trim 31 = .ok (.invokestatic 60, 3) := by decide +kernel
theorem dX0_trim_34 : decode cX0_trim 34 = .ok (.ladd, 1) := by decide +kernel
theorem dX0_trim_35 : decode cX0_trim 35 = .ok (.lstore_n 1, 1) := by decide +kernel
theorem dX0_trim_36 : decode cX0_trim 36 = .ok (.lload_n 1, 1) := by decide +kernel
theorem dX0_trim_37 : decode cX0_trim 37 = .ok (.ldc2_w 65, 3) := by decide +kernel
theorem dX0_trim_40 : decode cX0_trim 40 = .ok (.ldc2_w 67, 3) := by decide +kernel
theorem dX0_trim_43 : decode cX0_trim 43 = .ok (.invokestatic 46, 3) := by decide +kernel
theorem dX0_trim_46 : decode cX0_trim 46 = .ok (.l2i, 1) := by decide +kernel
theorem dX0_trim_47 : decode cX0_trim 47 = .ok (.ireturn, 1) := by decide +kernel
theorem dX1_init_0 : decode cX1_init 0 = .ok (.aload_n 0, 1) := by decide +kernel
theorem dX1_init_1 : decode cX1_init 1 = .ok (.invokespecial 1, 3) := by decide +kernel
theorem dX1_init_4 : decode cX1_init 4 = .ok (.return_, 1) := by decide +kernel
theorem dX1_begin_0 : decode cX1_begin 0 = .ok (.aload_n 0, 1) := by decide +kernel
theorem dX1_begin_1 : decode cX1_begin 1 = .ok (.iconst 0, 1) := by decide +kernel
theorem dX1_begin_2 : decode cX1_begin 2 = .ok (.putfield 7, 3) := by decide +kernel
theorem dX1_begin_5 : decode cX1_begin 5 = .ok (.aload_n 0, 1) := by decide +kernel
theorem dX1_begin_6 : decode cX1_begin 6 = .ok (.iconst 0, 1) := by decide +kernel
theorem dX1_begin_7 : decode cX1_begin 7 = .ok (.putfield 13, 3) := by decide +kernel
theorem dX1_begin_10 : decode cX1_begin 10 = .ok (.aload_n 0, 1) := by decide +kernel
theorem dX1_begin_11 : decode cX1_begin 11 = .ok (.bipush 100, 2) := by decide +kernel
theorem dX1_begin_13 : decode cX1_begin 13 = .ok (.putfield 16, 3) := by decide +kernel
theorem dX1_begin_16 : decode cX1_begin 16 = .ok (.aload_n 0, 1) := by decide +kernel
theorem dX1_begin_17 : decode cX1_begin 17 = .ok (.sipush 1000, 3) := by decide +kernel
theorem dX1_begin_20 : decode cX1_begin 20 = .ok (.putfield 19, 3) := by decide +kernel
theorem dX1_begin_23 : decode cX1_begin 23 = .ok (.aload_n 0, 1) := by decide +kernel
theorem dX1_begin_24 : decode cX1_begin 24 = .ok (.iconst 0, 1) := by decide +kernel
theorem dX1_begin_25 : decode cX1_begin 25 = .ok (.putfield 22, 3) := by decide +kernel
theorem dX1_begin_28 : decode cX1_begin 28 = .ok (.return_, 1) := by decide +kernel
theorem dX1_copyFrom_0 : decode cX1_copyFrom 0 = .ok (.aload_n 0, 1) := by decide +kernel
theorem dX1_copyFrom_1 : decode cX1_copyFrom 1 = .ok (.aload_n 1, 1) := by decide +kernel
theorem dX1_copyFrom_2 : decode cX1_copyFrom 2 = .ok (.getfield 7, 3) := by decide +kernel
theorem dX1_copyFrom_5 : decode cX1_copyFrom 5 = .ok (.putfield 7, 3) := by decide +kernel
theorem dX1_copyFrom_8 : decode cX1_copyFrom 8 = .ok (.aload_n 0, 1) := by decide +kernel
theorem dX1_copyFrom_9 : decode cX1_copyFrom 9 = .ok (.aload_n 1, 1) := by decide +kernel
theorem dX1_copyFrom_10 : decode cX1_copyFrom 10 = .ok (.getfield 13, 3) := by decide +kernel
theorem dX1_copyFrom_13 : decode cX1_copyFrom 13 = .ok (.putfield 13, 3) := by decide +kernel
theorem dX1_copyFrom_16 : decode cX1_copyFrom 16 = .ok (.aload_n 0, 1) := by decide +kernel
theorem dX1_copyFrom_17 : decode cX1_copyFrom 17 = .ok (.aload_n 1, 1) := by decide +kernel
theorem dX1_copyFrom_18 : decode cX1_copyFrom 18 = .ok (.getfield 16, 3) := by decide +kernel
theorem dX1_copyFrom_21 : decode cX1_copyFrom 21 = .ok (.putfield 16, 3) := by decide +kernel
theorem dX1_copyFrom_24 : decode cX1_copyFrom 24 = .ok (.aload_n 0, 1) := by decide +kernel
theorem dX1_copyFrom_25 : decode cX1_copyFrom 25 = .ok (.aload_n 1, 1) := by decide +kernel
theorem dX1_copyFrom_26 : decode cX1_copyFrom 26 = .ok (.getfield 19, 3) := by decide +kernel
theorem dX1_copyFrom_29 : decode cX1_copyFrom 29 = .ok (.putfield 19, 3) := by decide +kernel
theorem dX1_copyFrom_32 : decode cX1_copyFrom 32 = .ok (.aload_n 0, 1) := by decide +kernel
theorem dX1_copyFrom_33 : decode cX1_copyFrom 33 = .ok (.aload_n 1, 1) := by decide +kernel
theorem dX1_copyFrom_34 : decode cX1_copyFrom 34 = .ok (.getfield 22, 3) := by decide +kernel
theorem dX1_copyFrom_37 : decode cX1_copyFrom 37 = .ok (.putfield 22, 3) := by decide +kernel
theorem dX1_copyFrom_40 : decode cX1_copyFrom 40 = .ok (.return_, 1) := by decide +kernel
theorem dX1_changeTarget_0 : decode cX1_changeTarget 0 = .ok (.aload_n 0, 1) := by decide +kernel
theorem dX1_changeTarget_1 : decode cX1_changeTarget 1 = .ok (.getfield 13, 3) := by decide +kernel
theorem dX1_changeTarget_4 : decode cX1_changeTarget 4 = .ok (.iload_n 1, 1) := by decide +kernel
theorem dX1_changeTarget_5 : decode cX1_changeTarget 5 = .ok (.if_icmp .ne 11, 3) := by decide +kernel
theorem dX1_changeTarget_8 : decode cX1_changeTarget 8 = .ok (.aload_n 0, 1) := by decide +kernel
theorem dX1_changeTarget_9 : decode cX1_changeTarget 9 = .ok (.getfield 16, 3) := by decide +kernel
theorem dX1_changeTarget_12 : decode cX1_changeTarget 12 = .ok (.iload_n 2, 1) := by decide +kernel
theorem dX1_changeTarget_13 : decode cX1_changeTarget 13 = .ok (.if_icmp .eq 7, 3) := by decide +kernel
theorem dX1_changeTarget_16 : decode cX1_changeTarget 16 = .ok (.iconst 1, 1) := by decide +kernel
theorem dX1_changeTarget_17 : decode cX1_changeTarget 17 = .ok (.goto 4, 3) := by decide +kernel
theorem dX1_changeTarget_20 : decode cX1_changeTarget 20 = .ok (.iconst 0, 1) := by decide +kernel
theorem dX1_changeTarget_21 : decode cX1_changeTarget 21 = .ok (.istore_n 3, 1) := by decide +kernel
theorem dX1_changeTarget_22 : decode cX1_changeTarget 22 = .ok (.aload_n 0, 1) := by decide +kernel
theorem dX1_changeTarget_23 : decode cX1_changeTarget 23 = .ok (.iload_n 1, 1) := by decide +kernel
theorem dX1_changeTarget_24 : decode cX1_changeTarget 24 = .ok (.putfield 13, 3) := by decide +kernel
theorem dX1_changeTarget_27 : decode cX1_changeTarget 27 = .ok (.aload_n 0, 1) := by decide +kernel
theorem dX1_changeTarget_28 : decode cX1_changeTarget 28 = .ok (.iload_n 2, 1) := by decide +kernel
theorem dX1_changeTarget_29 : decode cX1_changeTarget 29 = .ok (.putfield 16, 3) := by decide +kernel
theorem dX1_changeTarget_32 : decode cX1_changeTarget 32 = .ok (.iload_n 3, 1) := by decide +kernel
theorem dX1_changeTarget_33 : decode cX1_changeTarget 33 = .ok (.ireturn, 1) := by decide +kernel
theorem dX1_changeSplicing_0 : decode cX1_changeSplicing 0 = .ok (.aload_n 0, 1) := by decide +kernel
theorem dX1_changeSplicing_1 : decode cX1_changeSplicing 1 = .ok (.getfield 19, 3) := by decide +kernel
theorem dX1_changeSplicing_4 : decode cX1_changeSplicing 4 = .ok (.iload_n 1, 1) := by decide +kernel
theorem dX1_changeSplicing_5 : decode cX1_changeSplicing 5 = .ok (.if_icmp .ne 11, 3) := by decide +kernel
theorem dX1_changeSplicing_8 : decode cX1_changeSplicing 8 = .ok (.aload_n 0, 1) := by decide +kernel
theorem dX1_changeSplicing_9 : decode cX1_changeSplicing 9 = .ok (.getfield 22, 3) := by decide +kernel
theorem dX1_changeSplicing_12 : decode cX1_changeSplicing 12 = .ok (.iload_n 2, 1) := by decide +kernel
theorem dX1_changeSplicing_13 : decode cX1_changeSplicing 13 = .ok (.if_icmp .eq 7, 3) := by decide +kernel
theorem dX1_changeSplicing_16 : decode cX1_changeSplicing 16 = .ok (.iconst 1, 1) := by decide +kernel
theorem dX1_changeSplicing_17 : decode cX1_changeSplicing 17 = .ok (.goto 4, 3) := by decide +kernel
theorem dX1_changeSplicing_20 : decode cX1_changeSplicing 20 = .ok (.iconst 0, 1) := by decide +kernel
theorem dX1_changeSplicing_21 : decode cX1_changeSplicing 21 = .ok (.istore_n 3, 1) := by decide +kernel
theorem dX1_changeSplicing_22 : decode cX1_changeSplicing 22 = .ok (.aload_n 0, 1) := by decide +kernel
theorem dX1_changeSplicing_23 : decode cX1_changeSplicing 23 = .ok (.iload_n 1, 1) := by decide +kernel
theorem dX1_changeSplicing_24 : decode cX1_changeSplicing 24 = .ok (.putfield 19, 3) := by decide +kernel
theorem dX1_changeSplicing_27 : decode cX1_changeSplicing 27 = .ok (.aload_n 0, 1) := by decide +kernel
theorem dX1_changeSplicing_28 : decode cX1_changeSplicing 28 = .ok (.iload_n 2, 1) := by decide +kernel
theorem dX1_changeSplicing_29 : decode cX1_changeSplicing 29 = .ok (.putfield 22, 3) := by decide +kernel
theorem dX1_changeSplicing_32 : decode cX1_changeSplicing 32 = .ok (.iload_n 3, 1) := by decide +kernel
theorem dX1_changeSplicing_33 : decode cX1_changeSplicing 33 = .ok (.ireturn, 1) := by decide +kernel
theorem dX1_approachWanted_0 : decode cX1_approachWanted 0 = .ok (.iload_n 1, 1) := by decide +kernel
theorem dX1_approachWanted_1 : decode cX1_approachWanted 1 = .ok (.ifCond .eq 17, 3) := by decide +kernel
theorem dX1_approachWanted_4 : decode cX1_approachWanted 4 = .ok (.aload_n 0, 1) := by decide +kernel
theorem dX1_approachWanted_5 : decode cX1_approachWanted 5 = .ok (.getfield 13, 3) := by decide +kernel
theorem dX1_approachWanted_8 : decode cX1_approachWanted 8 = .ok (.aload_n 0, 1) := by decide +kernel
theorem dX1_approachWanted_9 : decode cX1_approachWanted 9 = .ok (.getfield 19, 3) := by decide +kernel
theorem dX1_approachWanted_12 : decode cX1_approachWanted 12 = .ok (.invokestatic 25, 3) := by decide +kernel
theorem dX1_approachWanted_15 : decode cX1_approachWanted 15 = .ok (.goto 7, 3) := by decide +kernel
theorem dX1_approachWanted_18 : decode cX1_approachWanted 18 = .ok (.aload_n 0, 1) := by decide +kernel
theorem dX1_approachWanted_19 : decode cX1_approachWanted 19 = .ok (.getfield 13, 3) := by decide +kernel
theorem dX1_approachWanted_22 : decode cX1_approachWanted 22 = .ok (.istore_n 2, 1) := by decide +kernel
theorem dX1_approachWanted_23 : decode cX1_approachWanted 23 = .ok (.aload_n 0, 1) := by decide +kernel
theorem dX1_approachWanted_24 : decode cX1_approachWanted 24 = .ok (.dup, 1) := by decide +kernel
theorem dX1_approachWanted_25 : decode cX1_approachWanted 25 = .ok (.getfield 7, 3) := by decide +kernel
theorem dX1_approachWanted_28 : decode cX1_approachWanted 28 = .ok (.iload_n 2, 1) := by decide +kernel
theorem dX1_approachWanted_29 : decode cX1_approachWanted 29 = .ok (.aload_n 0, 1) := by decide +kernel
theorem dX1_approachWanted_30 : decode cX1_approachWanted 30 = .ok (.getfield 7, 3) := by decide +kernel
theorem dX1_approachWanted_33 : decode cX1_approachWanted 33 = .ok (.isub, 1) := by decide +kernel
theorem dX1_approachWanted_34 : decode cX1_approachWanted 34 = .ok (.i2l, 1) := by decide +kernel
theorem dX1_approachWanted_35 : decode cX1_approachWanted 35 = .ok (.aload_n 0, 1) := by decide +kernel
theorem dX1_approachWanted_36 : decode cX1_approachWanted 36 = .ok (.getfield 16, 3) := by decide +kernel
theorem dX1_approachWanted_39 : decode cX1_approachWanted 39 = .ok (.ineg, 1) := by decide +kernel
theorem dX1_approachWanted_40 : decode cX1_approachWanted 40 = .ok (.i2l, 1) := by decide +kernel
theorem dX1_approachWanted_41 : decode cX1_approachWanted 41 = .ok (.aload_n 0, 1) := by decide +kernel
theorem dX1_approachWanted_42 : decode cX1_approachWanted 42 = .ok (.getfield 16, 3) := by decide +kernel
theorem dX1_approachWanted_45 : decode cX1_approachWanted 45 = .ok (.i2l, 1) := by decide +kernel
theorem dX1_approachWanted_46 : decode cX1_approachWanted 46 = .ok (.invokestatic 31, 3) := by decide +kernel
theorem dX1_approachWanted_49 : decode cX1_approachWanted 49 = .ok (.l2i, 1) := by decide +kernel
theorem dX1_approachWanted_50 : decode cX1_approachWanted 50 = .ok (.iadd, 1) := by decide +kernel
theorem dX1_approachWanted_51 : decode cX1_approachWanted 51 = .ok (.putfield 7, 3) := by decide +kernel
theorem dX1_approachWanted_54 : decode cX1_approachWanted 54 = .ok (.return_, 1) := by decide +kernel
theorem dX2_init_0 : decode cX2_init 0 = .ok (.aload_n 0, 1) := by decide +kernel
theorem dX2_init_1 : decode cX2_init 1 = .ok (.invokespecial 3, 3) := by decide +kernel
theorem dX2_init_4 : decode cX2_init 4 = .ok (.aload_n 0, 1) := by decide +kernel
theorem dX2_init_5 : decode cX2_init 5 = .ok (.bipush 30, 2) := by decide +kernel
theorem dX2_init_7 : decode cX2_init 7 = .ok (.newarray .int, 2) := by decide +kernel
theorem dX2_init_9 : decode cX2_init 9 = .ok (.putfield 9, 3) := by decide +kernel
theorem dX2_init_12 : decode cX2_init 12 = .ok (.aload_n 0, 1) := by decide +kernel
theorem dX2_init_13 : decode cX2_init 13 = .ok (.bipush 30, 2) := by decide +kernel
theorem dX2_init_15 : decode cX2_init 15 = .ok (.newarray .int, 2) := by decide +kernel
theorem dX2_init_17 : decode cX2_init 17 = .ok (.putfield 15, 3) := by decide +kernel
theorem dX2_init_20 : decode cX2_init 20 = .ok (.aload_n 0, 1) := by decide +kernel
theorem dX2_init_21 : decode cX2_init 21 = .ok (.bipush 30, 2) := by decide +kernel
theorem dX2_init_23 : decode cX2_init 23 = .ok (.newarray .int, 2) := by decide +kernel
theorem dX2_init_25 : decode cX2_init 25 = .ok (.putfield 18, 3) := by decide +kernel
theorem dX2_init_28 : decode cX2_init 28 = .ok (.return_, 1) := by decide +kernel
theorem dX2_begin_0 : decode cX2_begin 0 = .ok (.aload_n 0, 1) := by decide +kernel
theorem dX2_begin_1 : decode cX2_begin 1 = .ok (.iconst 0, 1) := by decide +kernel
theorem dX2_begin_2 : decode cX2_begin 2 = .ok (.putfield 21, 3) := by decide +kernel
theorem dX2_begin_5 : decode cX2_begin 5 = .ok (.aload_n 0, 1) := by decide +kernel
theorem dX2_begin_6 : decode cX2_begin 6 = .ok (.iconst 0, 1) := by decide +kernel
theorem dX2_begin_7 : decode cX2_begin 7 = .ok (.putfield 25, 3) := by decide +kernel
theorem dX2_begin_10 : decode cX2_begin 10 = .ok (.return_, 1) := by decide +kernel
theorem dX2_slotOf_0 : decode cX2_slotOf 0 = .ok (.aload_n 0, 1) := by decide +kernel
theorem dX2_slotOf_1 : decode cX2_slotOf 1 = .ok (.getfield 21, 3) := by decide +kernel
theorem dX2_slotOf_4 : decode cX2_slotOf 4 = .ok (.iload_n 1, 1) := by decide +kernel
theorem dX2_slotOf_5 : decode cX2_slotOf 5 = .ok (.iadd, 1) := by decide +kernel
theorem dX2_slotOf_6 : decode cX2_slotOf 6 = .ok (.bipush 30, 2) := by decide +kernel
theorem dX2_slotOf_8 : decode cX2_slotOf 8 = .ok (.invokestatic 28, 3) := by decide +kernel
theorem dX2_slotOf_11 : decode cX2_slotOf 11 = .ok (.ireturn, 1) := by decide +kernel
theorem dX2_add_0 : decode cX2_add 0 = .ok (.aload_n 0, 1) := by decide +kernel
theorem dX2_add_1 : decode cX2_add 1 = .ok (.aload_n 0, 1) := by decide +kernel
theorem dX2_add_2 : decode cX2_add 2 = .ok (.getfield 25, 3) := by decide +kernel
theorem dX2_add_5 : decode cX2_add 5 = .ok (.invokevirtual 34, 3) := by decide +kernel
theorem dX2_add_8 : decode cX2_add 8 = .ok (.istore 4, 2) := by decide +kernel
theorem dX2_add_10 : decode cX2_add 10 = .ok (.aload_n 0, 1) := by decide +kernel
theorem dX2_add_11 : decode cX2_add 11 = .ok (.getfield 9, 3) := by decide +kernel
theorem dX2_add_14 : decode cX2_add 14 = .ok (.iload 4, 2) := by decide +kernel
theorem dX2_add_16 : decode cX2_add 16 = .ok (.iload_n 1, 1) := by decide +kernel
theorem dX2_add_17 : decode cX2_add 17 = .ok (.iastore, 1) := by decide +kernel
theorem dX2_add_18 : decode cX2_add 18 = .ok (.aload_n 0, 1) := by decide +kernel
theorem dX2_add_19 : decode cX2_add 19 = .ok (.getfield 15, 3) := by decide +kernel
theorem dX2_add_22 : decode cX2_add 22 = .ok (.iload 4, 2) := by decide +kernel
theorem dX2_add_24 : decode cX2_add 24 = .ok (.iload_n 2, 1) := by decide +kernel
theorem dX2_add_25 : decode cX2_add 25 = .ok (.iastore, 1) := by decide +kernel
theorem dX2_add_26 : decode cX2_add 26 = .ok (.aload_n 0, 1) := by decide +kernel
theorem dX2_add_27 : decode cX2_add 27 = .ok (.getfield 18, 3) := by decide +kernel
theorem dX2_add_30 : decode cX2_add 30 = .ok (.iload 4, 2) := by decide +kernel
theorem dX2_add_32 : decode cX2_add 32 = .ok (.iload_n 3, 1) := by decide +kernel
theorem dX2_add_33 : decode cX2_add 33 = .ok (.iastore, 1) := by decide +kernel
theorem dX2_add_34 : decode cX2_add 34 = .ok (.aload_n 0, 1) := by decide +kernel
theorem dX2_add_35 : decode cX2_add 35 = .ok (.getfield 25, 3) := by decide +kernel
theorem dX2_add_38 : decode cX2_add 38 = .ok (.bipush 30, 2) := by decide +kernel
theorem dX2_add_40 : decode cX2_add 40 = .ok (.if_icmp .ge 16, 3) := by decide +kernel
theorem dX2_add_43 : decode cX2_add 43 = .ok (.aload_n 0, 1) := by decide +kernel
theorem dX2_add_44 : decode cX2_add 44 = .ok (.dup, 1) := by decide +kernel
theorem dX2_add_45 : decode cX2_add 45 = .ok (.getfield 25, 3) := by decide +kernel
theorem dX2_add_48 : decode cX2_add 48 = .ok (.iconst 1, 1) := by decide +kernel
theorem dX2_add_49 : decode cX2_add 49 = .ok (.iadd, 1) := by decide +kernel
theorem dX2_add_50 : decode cX2_add 50 = .ok (.putfield 25, 3) := by decide +kernel
theorem dX2_add_53 : decode cX2_add 53 = .ok (.goto 12, 3) := by decide +kernel
theorem dX2_add_56 : decode cX2_add 56 = .ok (.aload_n 0, 1) := by decide +kernel
theorem dX2_add_57 : decode cX2_add 57 = .ok (.aload_n 0, 1) := by decide +kernel
theorem dX2_add_58 : decode cX2_add 58 = .ok (.iconst 1, 1) := by decide +kernel
theorem dX2_add_59 : decode cX2_add 59 = .ok (.invokevirtual 34, 3) := by decide +kernel
theorem dX2_add_62 : decode cX2_add 62 = .ok (.putfield 21, 3) := by decide +kernel
theorem dX2_add_65 : decode cX2_add 65 = .ok (.return_, 1) := by decide +kernel
theorem dX3_init_0 : decode cX3_init 0 = .ok (.aload_n 0, 1) := by decide +kernel
theorem dX3_init_1 : decode cX3_init 1 = .ok (.invokespecial 3, 3) := by decide +kernel
theorem dX3_init_4 : decode cX3_init 4 = .ok (.aload_n 0, 1) := by decide +kernel
theorem dX3_init_5 : decode cX3_init 5 = .ok (.new 9, 3) := by decide +kernel
theorem dX3_init_8 : decode cX3_init 8 = .ok (.dup, 1) := by decide +kernel
theorem dX3_init_9 : decode cX3_init 9 = .ok (.invokespecial 11, 3) := by decide +kernel
theorem dX3_init_12 : decode cX3_init 12 = .ok (.putfield 12, 3) := by decide +kernel
theorem dX3_init_15 : decode cX3_init 15 = .ok (.aload_n 0, 1) := by decide +kernel
theorem dX3_init_16 : decode cX3_init 16 = .ok (.new 18, 3) := by decide +kernel
theorem dX3_init_19 : decode cX3_init 19 = .ok (.dup, 1) := by decide +kernel
theorem dX3_init_20 : decode cX3_init 20 = .ok (.invokespecial 20, 3) := by decide +kernel
theorem dX3_init_23 : decode cX3_init 23 = .ok (.putfield 21, 3) := by decide +kernel
theorem dX3_init_26 : decode cX3_init 26 = .ok (.aload_n 0, 1) := by decide +kernel
theorem dX3_init_27 : decode cX3_init 27 = .ok (.new 25, 3) := by decide +kernel
theorem dX3_init_30 : decode cX3_init 30 = .ok (.dup, 1) := by decide +kernel
theorem dX3_init_31 : decode cX3_init 31 = .ok (.invokespecial 27, 3) := by decide +kernel
theorem dX3_init_34 : decode cX3_init 34 = .ok (.putfield 28, 3) := by decide +kernel
theorem dX3_init_37 : decode cX3_init 37 = .ok (.aload_n 0, 1) := by decide +kernel
theorem dX3_init_38 : decode cX3_init 38 = .ok (.new 32, 3) := by decide +kernel
theorem dX3_init_41 : decode cX3_init 41 = .ok (.dup, 1) := by decide +kernel
theorem dX3_init_42 : decode cX3_init 42 = .ok (.invokespecial 34, 3) := by decide +kernel
theorem dX3_init_45 : decode cX3_init 45 = .ok (.putfield 35, 3) := by decide +kernel
theorem dX3_init_48 : decode cX3_init 48 = .ok (.aload_n 0, 1) := by decide +kernel
theorem dX3_init_49 : decode cX3_init 49 = .ok (.new 39, 3) := by decide +kernel
theorem dX3_init_52 : decode cX3_init 52 = .ok (.dup, 1) := by decide +kernel
theorem dX3_init_53 : decode cX3_init 53 = .ok (.invokespecial 41, 3) := by decide +kernel
theorem dX3_init_56 : decode cX3_init 56 = .ok (.putfield 42, 3) := by decide +kernel
theorem dX3_init_59 : decode cX3_init 59 = .ok (.aload_n 0, 1) := by decide +kernel
theorem dX3_init_60 : decode cX3_init 60 = .ok (.new 46, 3) := by decide +kernel
theorem dX3_init_63 : decode cX3_init 63 = .ok (.dup, 1) := by decide +kernel
theorem dX3_init_64 : decode cX3_init 64 = .ok (.invokespecial 48, 3) := by decide +kernel
theorem dX3_init_67 : decode cX3_init 67 = .ok (.putfield 49, 3) := by decide +kernel
theorem dX3_init_70 : decode cX3_init 70 = .ok (.aload_n 0, 1) := by decide +kernel
theorem dX3_init_71 : decode cX3_init 71 = .ok (.bipush 6, 2) := by decide +kernel
theorem dX3_init_73 : decode cX3_init 73 = .ok (.anewarray 53, 3) := by decide +kernel
theorem dX3_init_76 : decode cX3_init 76 = .ok (.putfield 55, 3) := by decide +kernel
theorem dX3_init_79 : decode cX3_init 79 = .ok (.aload_n 0, 1) := by decide +kernel
theorem dX3_init_80 : decode cX3_init 80 = .ok (.bipush 7, 2) := by decide +kernel
theorem dX3_init_82 : decode cX3_init 82 = .ok (.anewarray 59, 3) := by decide +kernel
theorem dX3_init_85 : decode cX3_init 85 = .ok (.putfield 61, 3) := by decide +kernel
theorem dX3_init_88 : decode cX3_init 88 = .ok (.aload_n 0, 1) := by decide +kernel
theorem dX3_init_89 : decode cX3_init 89 = .ok (.bipush 7, 2) := by decide +kernel
theorem dX3_init_91 : decode cX3_init 91 = .ok (.newarray .long, 2) := by decide +kernel
theorem dX3_init_93 : decode cX3_init 93 = .ok (.putfield 65, 3) := by decide +kernel
theorem dX3_init_96 : decode cX3_init 96 = .ok (.iconst 0, 1) := by decide +kernel
theorem dX3_init_97 : decode cX3_init 97 = .ok (.istore_n 1, 1) := by decide +kernel
theorem dX3_init_98 : decode cX3_init 98 = .ok (.iload_n 1, 1) := by decide +kernel
theorem dX3_init_99 : decode cX3_init 99 = .ok (.aload_n 0, 1) := by decide +kernel
theorem dX3_init_100 : decode cX3_init 100 = .ok (.getfield 55, 3) := by decide +kernel
theorem dX3_init_103 : decode cX3_init 103 = .ok (.arraylength, 1) := by decide +kernel
theorem dX3_init_104 : decode cX3_init 104 = .ok (.if_icmp .ge 22, 3) := by decide +kernel
theorem dX3_init_107 : decode cX3_init 107 = .ok (.aload_n 0, 1) := by decide +kernel
theorem dX3_init_108 : decode cX3_init 108 = .ok (.getfield 55, 3) := by decide +kernel
theorem dX3_init_111 : decode cX3_init 111 = .ok (.iload_n 1, 1) := by decide +kernel
theorem dX3_init_112 : decode cX3_init 112 = .ok (.new 53, 3) := by decide +kernel
theorem dX3_init_115 : decode cX3_init 115 = .ok (.dup, 1) := by decide +kernel
theorem dX3_init_116 : decode cX3_init 116 = .ok (.invokespecial 69, 3) := by decide +kernel
theorem dX3_init_119 : decode cX3_init 119 = .ok (.aastore, 1) := by decide +kernel
theorem dX3_init_120 : decode cX3_init 120 = .ok (.iinc 1 1, 3) := by decide +kernel
theorem dX3_init_123 : decode cX3_init 123 = .ok (.goto (-25), 3) := by decide +kernel
theorem dX3_init_126 : decode cX3_init 126 = .ok (.iconst 0, 1) := by decide +kernel
theorem dX3_init_127 : decode cX3_init 127 = .ok (.istore_n 1, 1) := by decide +kernel
theorem dX3_init_128 : decode cX3_init 128 = .ok (.iload_n 1, 1) := by decide +kernel
theorem dX3_init_129 : decode cX3_init 129 = .ok (.aload_n 0, 1) := by decide +kernel
theorem dX3_init_130 : decode cX3_init 130 = .ok (.getfield 61, 3) := by decide +kernel
theorem dX3_init_133 : decode cX3_init 133 = .ok (.arraylength, 1) := by decide +kernel
theorem dX3_init_134 : decode cX3_init 134 = .ok (.if_icmp .ge 22, 3) := by decide +kernel
theorem dX3_init_137 : decode cX3_init 137 = .ok (.aload_n 0, 1) := by decide +kernel
theorem dX3_init_138 : decode cX3_init 138 = .ok (.getfield 61, 3) := by decide +kernel
theorem dX3_init_141 : decode cX3_init 141 = .ok (.iload_n 1, 1) := by decide +kernel
theorem dX3_init_142 : decode cX3_init 142 = .ok (.new 59, 3) := by decide +kernel
theorem dX3_init_145 : decode cX3_init 145 = .ok (.dup, 1) := by decide +kernel
theorem dX3_init_146 : decode cX3_init 146 = .ok (.invokespecial 70, 3) := by decide +kernel
theorem dX3_init_149 : decode cX3_init 149 = .ok (.aastore, 1) := by decide +kernel
theorem dX3_init_150 : decode cX3_init 150 = .ok (.iinc 1 1, 3) := by decide +kernel
theorem dX3_init_153 : decode cX3_init 153 = .ok (.goto (-25), 3) := by decide +kernel
theorem dX3_init_156 : decode cX3_init 156 = .ok (.aload_n 0, 1) := by decide +kernel
theorem dX3_init_157 : decode cX3_init 157 = .ok (.ldc 71, 2) := by decide +kernel
theorem dX3_init_159 : decode cX3_init 159 = .ok (.invokevirtual 72, 3) := by decide +kernel
theorem dX3_init_162 : decode cX3_init 162 = .ok (.return_, 1) := by decide +kernel
theorem dX3_begin_0 : decode cX3_begin 0 = .ok (.aload_n 0, 1) := by decide +kernel
theorem dX3_begin_1 : decode cX3_begin 1 = .ok (.getfield 12, 3) := by decide +kernel
theorem dX3_begin_4 : decode cX3_begin 4 = .ok (.invokevirtual 76, 3) := by decide +kernel
theorem dX3_begin_7 : decode cX3_begin 7 = .ok (.aload_n 0, 1) := by decide +kernel
theorem dX3_begin_8 : decode cX3_begin 8 = .ok (.getfield 21, 3) := by decide +kernel
theorem dX3_begin_11 : decode cX3_begin 11 = .ok (.invokevirtual 78, 3) := by decide +kernel
theorem dX3_begin_14 : decode cX3_begin 14 = .ok (.aload_n 0, 1) := by decide +kernel
theorem dX3_begin_15 : decode cX3_begin 15 = .ok (.getfield 28, 3) := by decide +kernel
theorem dX3_begin_18 : decode cX3_begin 18 = .ok (.invokevirtual 79, 3) := by decide +kernel
theorem dX3_begin_21 : decode cX3_begin 21 = .ok (.aload_n 0, 1) := by decide +kernel
theorem dX3_begin_22 : decode cX3_begin 22 = .ok (.getfield 35, 3) := by decide +kernel
theorem dX3_begin_25 : decode cX3_begin 25 = .ok (.invokevirtual 80, 3) := by decide +kernel
theorem dX3_begin_28 : decode cX3_begin 28 = .ok (.aload_n 0, 1) := by decide +kernel
theorem dX3_begin_29 : decode cX3_begin 29 = .ok (.getfield 42, 3) := by decide +kernel
theorem dX3_begin_32 : decode cX3_begin 32 = .ok (.invokevirtual 81, 3) := by decide +kernel
theorem dX3_begin_35 : decode cX3_begin 35 = .ok (.aload_n 0, 1) := by decide +kernel
theorem dX3_begin_36 : decode cX3_begin 36 = .ok (.getfield 49, 3) := by decide +kernel
theorem dX3_begin_39 : decode cX3_begin 39 = .ok (.invokevirtual 84, 3) := by decide +kernel
theorem dX3_begin_42 : decode cX3_begin 42 = .ok (.aload_n 0, 1) := by decide +kernel
theorem dX3_begin_43 : decode cX3_begin 43 = .ok (.getfield 61, 3) := by decide +kernel
theorem dX3_begin_46 : decode cX3_begin 46 = .ok (.iconst 0, 1) := by decide +kernel
theorem dX3_begin_47 : decode cX3_begin 47 = .ok (.aaload, 1) := by decide +kernel
theorem dX3_begin_48 : decode cX3_begin 48 = .ok (.invokevirtual 85, 3) := by decide +kernel
theorem dX3_begin_51 : decode cX3_begin 51 = .ok (.aload_n 0, 1) := by decide +kernel
theorem dX3_begin_52 : decode cX3_begin 52 = .ok (.iconst 0, 1) := by decide +kernel
theorem dX3_begin_53 : decode cX3_begin 53 = .ok (.putfield 86, 3) := by decide +kernel
theorem dX3_begin_56 : decode cX3_begin 56 = .ok (.aload_n 0, 1) := by decide +kernel
theorem dX3_begin_57 : decode cX3_begin 57 = .ok (.iload_n 1, 1) := by decide +kernel
theorem dX3_begin_58 : decode cX3_begin 58 = .ok (.invokevirtual 90, 3) := by decide +kernel
theorem dX3_begin_61 : decode cX3_begin 61 = .ok (.pop, 1) := by decide +kernel
theorem dX3_begin_62 : decode cX3_begin 62 = .ok (.aload_n 0, 1) := by decide +kernel
theorem dX3_begin_63 : decode cX3_begin 63 = .ok (.iconst 0, 1) := by decide +kernel
theorem dX3_begin_64 : decode cX3_begin 64 = .ok (.putfield 94, 3) := by decide +kernel
theorem dX3_begin_67 : decode cX3_begin 67 = .ok (.aload_n 0, 1) := by decide +kernel
theorem dX3_begin_68 : decode cX3_begin 68 = .ok (.iconst 0, 1) := by decide +kernel
theorem dX3_begin_69 : decode cX3_begin 69 = .ok (.putfield 97, 3) := by decide +kernel
theorem dX3_begin_72 : decode cX3_begin 72 = .ok (.aload_n 0, 1) := by decide +kernel
theorem dX3_begin_73 : decode cX3_begin 73 = .ok (.ldc 100, 2) := by decide +kernel
theorem dX3_begin_75 : decode cX3_begin 75 = .ok (.putfield 101, 3) := by decide +kernel
theorem dX3_begin_78 : decode cX3_begin 78 = .ok (.return_, 1) := by decide +kernel
theorem dX3_append_0 : decode cX3_append 0 = .ok (.aload_n 0, 1) := by decide +kernel
theorem dX3_append_1 : decode cX3_append 1 = .ok (.getfield 86, 3) := by decide +kernel
theorem dX3_append_4 : decode cX3_append 4 = .ok (.bipush 6, 2) := by decide +kernel
theorem dX3_append_6 : decode cX3_append 6 = .ok (.if_icmp .lt 6, 3) := by decide +kernel
theorem dX3_append_9 : decode cX3_append 9 = .ok (.ldc 104, 2) := by decide +kernel
theorem dX3_append_11 : decode cX3_append 11 = .ok (.ireturn, 1) := by decide +kernel
theorem dX3_append_12 : decode cX3_append 12 = .ok (.aload_n 0, 1) := by decide +kernel
theorem dX3_append_13 : decode cX3_append 13 = .ok (.getfield 55, 3) := by decide +kernel
theorem dX3_append_16 : decode cX3_append 16 = .ok (.aload_n 0, 1) := by decide +kernel
theorem dX3_append_17 : decode cX3_append 17 = .ok (.getfield 86, 3) := by decide +kernel
theorem dX3_append_20 : decode cX3_append 20 = .ok (.aaload, 1) := by decide +kernel
theorem dX3_append_21 : decode cX3_append 21 = .ok (.iload_n 1, 1) := by decide +kernel
theorem dX3_append_22 : decode cX3_append 22 = .ok (.invokevirtual 105, 3) := by decide +kernel
theorem dX3_append_25 : decode cX3_append 25 = .ok (.aload_n 0, 1) := by decide +kernel
theorem dX3_append_26 : decode cX3_append 26 = .ok (.getfield 61, 3) := by decide +kernel
theorem dX3_append_29 : decode cX3_append 29 = .ok (.aload_n 0, 1) := by decide +kernel
theorem dX3_append_30 : decode cX3_append 30 = .ok (.getfield 86, 3) := by decide +kernel
theorem dX3_append_33 : decode cX3_append 33 = .ok (.iconst 1, 1) := by decide +kernel
theorem dX3_append_34 : decode cX3_append 34 = .ok (.iadd, 1) := by decide +kernel
theorem dX3_append_35 : decode cX3_append 35 = .ok (.aaload, 1) := by decide +kernel
theorem dX3_append_36 : decode cX3_append 36 = .ok (.invokevirtual 85, 3) := by decide +kernel
theorem dX3_append_39 : decode cX3_append 39 = .ok (.aload_n 0, 1) := by decide +kernel
theorem dX3_append_40 : decode cX3_append 40 = .ok (.dup, 1) := by decide +kernel
theorem dX3_append_41 : decode cX3_append 41 = .ok (.getfield 86, 3) := by decide +kernel
theorem dX3_append_44 : decode cX3_append 44 = .ok (.iconst 1, 1) := by decide +kernel
theorem dX3_append_45 : decode cX3_append 45 = .ok (.iadd, 1) := by decide +kernel
theorem dX3_append_46 : decode cX3_append 46 = .ok (.putfield 86, 3) := by decide +kernel
theorem dX3_append_49 : decode cX3_append 49 = .ok (.aload_n 0, 1) := by decide +kernel
theorem dX3_append_50 : decode cX3_append 50 = .ok (.getfield 86, 3) := by decide +kernel
theorem dX3_append_53 : decode cX3_append 53 = .ok (.iconst 1, 1) := by decide +kernel
theorem dX3_append_54 : decode cX3_append 54 = .ok (.isub, 1) := by decide +kernel
theorem dX3_append_55 : decode cX3_append 55 = .ok (.ireturn, 1) := by decide +kernel
theorem dX3_copyFrom_0 : decode cX3_copyFrom 0 = .ok (.aload_n 0, 1) := by decide +kernel
theorem dX3_copyFrom_1 : decode cX3_copyFrom 1 = .ok (.getfield 12, 3) := by decide +kernel
theorem dX3_copyFrom_4 : decode cX3_copyFrom 4 = .ok (.aload_n 1, 1) := by decide +kernel
theorem dX3_copyFrom_5 : decode cX3_copyFrom 5 = .ok (.getfield 12, 3) := by decide +kernel
theorem dX3_copyFrom_8 : decode cX3_copyFrom 8 = .ok (.invokevirtual 106, 3) := by decide +kernel
theorem dX3_copyFrom_11 : decode cX3_copyFrom 11 = .ok (.aload_n 0, 1) := by decide +kernel
theorem dX3_copyFrom_12 : decode cX3_copyFrom 12 = .ok (.getfield 21, 3) := by decide +kernel
theorem dX3_copyFrom_15 : decode cX3_copyFrom 15 = .ok (.aload_n 1, 1) := by decide +kernel
theorem dX3_copyFrom_16 : decode cX3_copyFrom 16 = .ok (.getfield 21, 3) := by decide +kernel
theorem dX3_copyFrom_19 : decode cX3_copyFrom 19 = .ok (.invokevirtual 110, 3) := by decide +kernel
theorem dX3_copyFrom_22 : decode cX3_copyFrom 22 = .ok (.aload_n 0, 1) := by decide +kernel
theorem dX3_copyFrom_23 : decode cX3_copyFrom 23 = .ok (.getfield 28, 3) := by decide +kernel
theorem dX3_copyFrom_26 : decode cX3_copyFrom 26 = .ok (.aload_n 1, 1) := by decide +kernel
theorem dX3_copyFrom_27 : decode cX3_copyFrom 27 = .ok (.getfield 28, 3) := by decide +kernel
theorem dX3_copyFrom_30 : decode cX3_copyFrom 30 = .ok (.invokevirtual 113, 3) := by decide +kernel
theorem dX3_copyFrom_33 : decode cX3_copyFrom 33 = .ok (.aload_n 0, 1) := by decide +kernel
theorem dX3_copyFrom_34 : decode cX3_copyFrom 34 = .ok (.getfield 35, 3) := by decide +kernel
theorem dX3_copyFrom_37 : decode cX3_copyFrom 37 = .ok (.aload_n 1, 1) := by decide +kernel
theorem dX3_copyFrom_38 : decode cX3_copyFrom 38 = .ok (.getfield 35, 3) := by decide +kernel
theorem dX3_copyFrom_41 : decode cX3_copyFrom 41 = .ok (.invokevirtual 116, 3) := by decide +kernel
theorem dX3_copyFrom_44 : decode cX3_copyFrom 44 = .ok (.aload_n 0, 1) := by decide +kernel
theorem dX3_copyFrom_45 : decode cX3_copyFrom 45 = .ok (.getfield 42, 3) := by decide +kernel
theorem dX3_copyFrom_48 : decode cX3_copyFrom 48 = .ok (.aload_n 1, 1) := by decide +kernel
theorem dX3_copyFrom_49 : decode cX3_copyFrom 49 = .ok (.getfield 42, 3) := by decide +kernel
theorem dX3_copyFrom_52 : decode cX3_copyFrom 52 = .ok (.invokevirtual 119, 3) := by decide +kernel
theorem dX3_copyFrom_55 : decode cX3_copyFrom 55 = .ok (.aload_n 0, 1) := by decide +kernel
theorem dX3_copyFrom_56 : decode cX3_copyFrom 56 = .ok (.aload_n 1, 1) := by decide +kernel
theorem dX3_copyFrom_57 : decode cX3_copyFrom 57 = .ok (.getfield 86, 3) := by decide +kernel
theorem dX3_copyFrom_60 : decode cX3_copyFrom 60 = .ok (.putfield 86, 3) := by decide +kernel
theorem dX3_copyFrom_63 : decode cX3_copyFrom 63 = .ok (.aload_n 0, 1) := by decide +kernel
theorem dX3_copyFrom_64 : decode cX3_copyFrom 64 = .ok (.aload_n 1, 1) := by decide +kernel
theorem dX3_copyFrom_65 : decode cX3_copyFrom 65 = .ok (.getfield 94, 3) := by decide +kernel
theorem dX3_copyFrom_68 : decode cX3_copyFrom 68 = .ok (.putfield 94, 3) := by decide +kernel
theorem dX3_copyFrom_71 : decode cX3_copyFrom 71 = .ok (.aload_n 0, 1) := by decide +kernel
theorem dX3_copyFrom_72 : decode cX3_copyFrom 72 = .ok (.aload_n 1, 1) := by decide +kernel
theorem dX3_copyFrom_73 : decode cX3_copyFrom 73 = .ok (.getfield 97, 3) := by decide +kernel
theorem dX3_copyFrom_76 : decode cX3_copyFrom 76 = .ok (.putfield 97, 3) := by decide +kernel
theorem dX3_copyFrom_79 : decode cX3_copyFrom 79 = .ok (.aload_n 0, 1) := by decide +kernel
theorem dX3_copyFrom_80 : decode cX3_copyFrom 80 = .ok (.aload_n 1, 1) := by decide +kernel
theorem dX3_copyFrom_81 : decode cX3_copyFrom 81 = .ok (.getfield 101, 3) := by decide +kernel
theorem dX3_copyFrom_84 : decode cX3_copyFrom 84 = .ok (.putfield 101, 3) := by decide +kernel
theorem dX3_copyFrom_87 : decode cX3_copyFrom 87 = .ok (.aload_n 0, 1) := by decide +kernel
theorem dX3_copyFrom_88 : decode cX3_copyFrom 88 = .ok (.getfield 61, 3) := by decide +kernel
theorem dX3_copyFrom_91 : decode cX3_copyFrom 91 = .ok (.iconst 0, 1) := by decide +kernel
theorem dX3_copyFrom_92 : decode cX3_copyFrom 92 = .ok (.aaload, 1) := by decide +kernel
theorem dX3_copyFrom_93 : decode cX3_copyFrom 93 = .ok (.aload_n 1, 1) := by decide +kernel
theorem dX3_copyFrom_94 : decode cX3_copyFrom 94 = .ok (.getfield 61, 3) := by decide +kernel
theorem dX3_copyFrom_97 : decode cX3_copyFrom 97 = .ok (.iconst 0, 1) := by decide +kernel
theorem dX3_copyFrom_98 : decode cX3_copyFrom 98 = .ok (.aaload, 1) := by decide +kernel
theorem dX3_copyFrom_99 : decode cX3_copyFrom 99 = .ok (.invokevirtual 122, 3) := by decide +kernel
theorem dX3_copyFrom_102 : decode cX3_copyFrom 102 = .ok (.iconst 0, 1) := by decide +kernel
theorem dX3_copyFrom_103 : decode cX3_copyFrom 103 = .ok (.istore_n 2, 1) := by decide +kernel
theorem dX3_copyFrom_104 : decode cX3_copyFrom 104 = .ok (.iload_n 2, 1) := by decide +kernel
theorem dX3_copyFrom_105 : decode cX3_copyFrom 105 = .ok (.aload_n 0, 1) := by decide +kernel
theorem dX3_copyFrom_106 : decode cX3_copyFrom 106 = .ok (.getfield 86, 3) := by decide +kernel
theorem dX3_copyFrom_109 : decode cX3_copyFrom 109 = .ok (.if_icmp .ge 43, 3) := by decide +kernel
theorem dX3_copyFrom_112 : decode cX3_copyFrom 112 = .ok (.aload_n 0, 1) := by decide +kernel
theorem dX3_copyFrom_113 : decode cX3_copyFrom 113 = .ok (.getfield 55, 3) := by decide +kernel
theorem dX3_copyFrom_116 : decode cX3_copyFrom 116 = .ok (.iload_n 2, 1) := by decide +kernel
theorem dX3_copyFrom_117 : decode cX3_copyFrom 117 = .ok (.aaload, 1) := by decide +kernel
theorem dX3_copyFrom_118 : decode cX3_copyFrom 118 = .ok (.aload_n 1, 1) := by decide +kernel
theorem dX3_copyFrom_119 : decode cX3_copyFrom 119 = .ok (.getfield 55, 3) := by decide +kernel
theorem dX3_copyFrom_122 : decode cX3_copyFrom 122 = .ok (.iload_n 2, 1) := by decide +kernel
theorem dX3_copyFrom_123 : decode cX3_copyFrom 123 = .ok (.aaload, 1) := by decide +kernel
theorem dX3_copyFrom_124 : decode cX3_copyFrom 124 = .ok (.invokevirtual 125, 3) := by decide +kernel
theorem dX3_copyFrom_127 : decode cX3_copyFrom 127 = .ok (.aload_n 0, 1) := by decide +kernel
theorem dX3_copyFrom_128 : decode cX3_copyFrom 128 = .ok (.getfield 61, 3) := by decide +kernel
theorem dX3_copyFrom_131 : decode cX3_copyFrom 131 = .ok (.iload_n 2, 1) := by decide +kernel
theorem dX3_copyFrom_132 : decode cX3_copyFrom 132 = .ok (.iconst 1, 1) := by decide +kernel
theorem dX3_copyFrom_133 : decode cX3_copyFrom 133 = .ok (.iadd, 1) := by decide +kernel
theorem dX3_copyFrom_134 : decode cX3_copyFrom 134 = .ok (.aaload, 1) := by decide +kernel
theorem dX3_copyFrom_135 : decode cX3_copyFrom 135 = .ok (.aload_n 1, 1) := by decide +kernel
theorem dX3_copyFrom_136 : decode cX3_copyFrom 136 = .ok (.getfield 61, 3) := by decide +kernel
theorem dX3_copyFrom_139 : decode cX3_copyFrom 139 = .ok (.iload_n 2, 1) := by decide +kernel
theorem dX3_copyFrom_140 : decode cX3_copyFrom 140 = .ok (.iconst 1, 1) := by decide +kernel
theorem dX3_copyFrom_141 : decode cX3_copyFrom 141 = .ok (.iadd, 1) := by decide +kernel
theorem dX3_copyFrom_142 : decode cX3_copyFrom 142 = .ok (.aaload, 1) := by decide +kernel
theorem dX3_copyFrom_143 : decode cX3_copyFrom 143 = .ok (.invokevirtual 122, 3) := by decide +kernel
theorem dX3_copyFrom_146 : decode cX3_copyFrom 146 = .ok (.iinc 2 1, 3) := by decide +kernel
theorem dX3_copyFrom_149 : decode cX3_copyFrom 149 = .ok (.goto (-45), 3) := by decide +kernel
theorem dX3_copyFrom_152 : decode cX3_copyFrom 152 = .ok (.return_, 1) := by decide +kernel
theorem dX3_hasSpan_0 : decode cX3_hasSpan 0 = .ok (.iload_n 1, 1) := by decide +kernel
theorem dX3_hasSpan_1 : decode cX3_hasSpan 1 = .ok (.ifCond .lt 15, 3) := by decide +kernel
theorem dX3_hasSpan_4 : decode cX3_hasSpan 4 = .ok (.iload_n 1, 1) := by decide +kernel
theorem dX3_hasSpan_5 : decode cX3_hasSpan 5 = .ok (.aload_n 0, 1) := by decide +kernel
theorem dX3_hasSpan_6 : decode cX3_hasSpan 6 = .ok (.getfield 86, 3) := by decide +kernel
theorem dX3_hasSpan_9 : decode cX3_hasSpan 9 = .ok (.if_icmp .ge 7, 3) := by decide +kernel
theorem dX3_hasSpan_12 : decode cX3_hasSpan 12 = .ok (.iconst 1, 1) := by decide +kernel
theorem dX3_hasSpan_13 : decode cX3_hasSpan 13 = .ok (.goto 4, 3) := by decide +kernel
theorem dX3_hasSpan_16 : decode cX3_hasSpan 16 = .ok (.iconst 0, 1) := by decide +kernel
theorem dX3_hasSpan_17 : decode cX3_hasSpan 17 = .ok (.ireturn, 1) := by decide +kernel
theorem dX3_hasRoller_0 : decode cX3_hasRoller 0 = .ok (.iload_n 1, 1) := by decide +kernel
theorem dX3_hasRoller_1 : decode cX3_hasRoller 1 = .ok (.ifCond .lt 15, 3) := by decide +kernel
theorem dX3_hasRoller_4 : decode cX3_hasRoller 4 = .ok (.iload_n 1, 1) := by decide +kernel
theorem dX3_hasRoller_5 : decode cX3_hasRoller 5 = .ok (.aload_n 0, 1) := by decide +kernel
theorem dX3_hasRoller_6 : decode cX3_hasRoller 6 = .ok (.getfield 86, 3) := by decide +kernel
theorem dX3_hasRoller_9 : decode cX3_hasRoller 9 = .ok (.if_icmp .gt 7, 3) := by decide +kernel
theorem dX3_hasRoller_12 : decode cX3_hasRoller 12 = .ok (.iconst 1, 1) := by decide +kernel
theorem dX3_hasRoller_13 : decode cX3_hasRoller 13 = .ok (.goto 4, 3) := by decide +kernel
theorem dX3_hasRoller_16 : decode cX3_hasRoller 16 = .ok (.iconst 0, 1) := by decide +kernel
theorem dX3_hasRoller_17 : decode cX3_hasRoller 17 = .ok (.ireturn, 1) := by decide +kernel
theorem dX3_nominalSpeed_0 : decode cX3_nominalSpeed 0 = .ok (.iload_n 2, 1) := by decide +kernel
theorem dX3_nominalSpeed_1 : decode cX3_nominalSpeed 1 = .ok (.i2l, 1) := by decide +kernel
theorem dX3_nominalSpeed_2 : decode cX3_nominalSpeed 2 = .ok (.lstore_n 3, 1) := by decide +kernel
theorem dX3_nominalSpeed_3 : decode cX3_nominalSpeed 3 = .ok (.iconst 1, 1) := by decide +kernel
theorem dX3_nominalSpeed_4 : decode cX3_nominalSpeed 4 = .ok (.istore 5, 2) := by decide +kernel
theorem dX3_nominalSpeed_6 : decode cX3_nominalSpeed 6 = .ok (.iload 5, 2) := by decide +kernel
theorem dX3_nominalSpeed_8 : decode cX3_nominalSpeed 8 = .ok (.iload_n 1, 1) := by decide +kernel
theorem dX3_nominalSpeed_9 : decode cX3_nominalSpeed 9 = .ok (.if_icmp .gt 33, 3) := by decide +kernel
theorem dX3_nominalSpeed_12 : decode cX3_nominalSpeed 12 = .ok (.iload 5, 2) := by decide +kernel
theorem dX3_nominalSpeed_14 : decode cX3_nominalSpeed 14 = .ok (.aload_n 0, 1) := by decide +kernel
theorem dX3_nominalSpeed_15 : decode cX3_nominalSpeed 15 = .ok (.getfield 86, 3) := by decide +kernel
theorem dX3_nominalSpeed_18 : decode cX3_nominalSpeed 18 = .ok (.if_icmp .gt 24, 3) := by decide +kernel
theorem dX3_nominalSpeed_21 : decode cX3_nominalSpeed 21 = .ok (.lload_n 3, 1) := by decide +kernel
theorem dX3_nominalSpeed_22 : decode cX3_nominalSpeed 22 = .ok (.aload_n 0, 1) := by decide +kernel
theorem dX3_nominalSpeed_23 : decode cX3_nominalSpeed 23 = .ok (.getfield 61, 3) := by decide +kernel
theorem dX3_nominalSpeed_26 : decode cX3_nominalSpeed 26 = .ok (.iload 5, 2) := by decide +kernel
theorem dX3_nominalSpeed_28 : decode cX3_nominalSpeed 28 = .ok (.aaload, 1) := by decide +kernel
theorem dX3_nominalSpeed_29 : decode cX3_nominalSpeed 29 = .ok (.getfield 128, 3) := by decide +kernel
theorem dX3_nominalSpeed_32 : decode cX3_nominalSpeed 32 = .ok (.invokestatic 131, 3) := by decide +kernel
theorem dX3_nominalSpeed_35 : decode cX3_nominalSpeed 35 = .ok (.lstore_n 3, 1) := by decide +kernel
theorem dX3_nominalSpeed_36 : decode cX3_nominalSpeed 36 = .ok (.iinc 5 1, 3) := by decide +kernel
theorem dX3_nominalSpeed_39 : decode cX3_nominalSpeed 39 = .ok (.goto (-33), 3) := by decide +kernel
theorem dX3_nominalSpeed_42 : decode cX3_nominalSpeed 42 = .ok (.lload_n 3, 1) := by decide +kernel
theorem dX3_nominalSpeed_43 : decode cX3_nominalSpeed 43 = .ok (.lreturn, 1) := by decide +kernel
theorem dX3_speedOf_0 : decode cX3_speedOf 0 = .ok (.aload_n 0, 1) := by decide +kernel
theorem dX3_speedOf_1 : decode cX3_speedOf 1 = .ok (.getfield 21, 3) := by decide +kernel
theorem dX3_speedOf_4 : decode cX3_speedOf 4 = .ok (.getfield 135, 3) := by decide +kernel
theorem dX3_speedOf_7 : decode cX3_speedOf 7 = .ok (.ifCond .eq 11, 3) := by decide +kernel
theorem dX3_speedOf_10 : decode cX3_speedOf 10 = .ok (.aload_n 0, 1) := by decide +kernel
theorem dX3_speedOf_11 : decode cX3_speedOf 11 = .ok (.iload_n 1, 1) := by decide +kernel
theorem dX3_speedOf_12 : decode cX3_speedOf 12 = .ok (.invokevirtual 138, 3) := by decide +kernel
theorem dX3_speedOf_15 : decode cX3_speedOf 15 = .ok (.ifCond .ne 5, 3) := by decide +kernel
theorem dX3_speedOf_18 : decode cX3_speedOf 18 = .ok (.lconst 0, 1) := by decide +kernel
theorem dX3_speedOf_19 : decode cX3_speedOf 19 = .ok (.lreturn, 1) := by decide +kernel
theorem dX3_speedOf_20 : decode cX3_speedOf 20 = .ok (.lconst 0, 1) := by decide +kernel
theorem dX3_speedOf_21 : decode cX3_speedOf 21 = .ok (.aload_n 0, 1) := by decide +kernel
theorem dX3_speedOf_22 : decode cX3_speedOf 22 = .ok (.iload_n 1, 1) := by decide +kernel
theorem dX3_speedOf_23 : decode cX3_speedOf 23 = .ok (.aload_n 0, 1) := by decide +kernel
theorem dX3_speedOf_24 : decode cX3_speedOf 24 = .ok (.getfield 21, 3) := by decide +kernel
theorem dX3_speedOf_27 : decode cX3_speedOf 27 = .ok (.getfield 135, 3) := by decide +kernel
theorem dX3_speedOf_30 : decode cX3_speedOf 30 = .ok (.invokevirtual 142, 3) := by decide +kernel
theorem dX3_speedOf_33 : decode cX3_speedOf 33 = .ok (.aload_n 0, 1) := by decide +kernel
theorem dX3_speedOf_34 : decode cX3_speedOf 34 = .ok (.getfield 61, 3) := by decide +kernel
theorem dX3_speedOf_37 : decode cX3_speedOf 37 = .ok (.iload_n 1, 1) := by decide +kernel
theorem dX3_speedOf_38 : decode cX3_speedOf 38 = .ok (.aaload, 1) := by decide +kernel
theorem dX3_speedOf_39 : decode cX3_speedOf 39 = .ok (.getfield 146, 3) := by decide +kernel
theorem dX3_speedOf_42 : decode cX3_speedOf 42 = .ok (.i2l, 1) := by decide +kernel
theorem dX3_speedOf_43 : decode cX3_speedOf 43 = .ok (.ladd, 1) := by decide +kernel
theorem dX3_speedOf_44 : decode cX3_speedOf 44 = .ok (.invokestatic 149, 3) := by decide +kernel
theorem dX3_speedOf_47 : decode cX3_speedOf 47 = .ok (.lreturn, 1) := by decide +kernel
theorem dX3_placeAtRoller_0 : decode cX3_placeAtRoller 0 = .ok (.aload_n 0, 1) := by decide +kernel
theorem dX3_placeAtRoller_1 : decode cX3_placeAtRoller 1 = .ok (.getfield 61, 3) := by decide +kernel
theorem dX3_placeAtRoller_4 : decode cX3_placeAtRoller 4 = .ok (.iconst 0, 1) := by decide +kernel
theorem dX3_placeAtRoller_5 : decode cX3_placeAtRoller 5 = .ok (.aaload, 1) := by decide +kernel
theorem dX3_placeAtRoller_6 : decode cX3_placeAtRoller 6 = .ok (.getfield 155, 3) := by decide +kernel
theorem dX3_placeAtRoller_9 : decode cX3_placeAtRoller 9 = .ok (.lstore_n 2, 1) := by decide +kernel
theorem dX3_placeAtRoller_10 : decode cX3_placeAtRoller 10 = .ok (.iconst 0, 1) := by decide +kernel
theorem dX3_placeAtRoller_11 : decode cX3_placeAtRoller 11 = .ok (.istore 4, 2) := by decide +kernel
theorem dX3_placeAtRoller_13 : decode cX3_placeAtRoller 13 = .ok (.iload 4, 2) := by decide +kernel
theorem dX3_placeAtRoller_15 : decode cX3_placeAtRoller 15 = .ok (.iload_n 1, 1) := by decide +kernel
theorem dX3_placeAtRoller_16 : decode cX3_placeAtRoller 16 = .ok (.if_icmp .ge 31, 3) := by decide +kernel
theorem dX3_placeAtRoller_19 : decode cX3_placeAtRoller 19 = .ok (.iload 4, 2) := by decide +kernel
theorem dX3_placeAtRoller_21 : decode cX3_placeAtRoller 21 = .ok (.aload_n 0, 1) := by decide +kernel
theorem dX3_placeAtRoller_22 : decode cX3_placeAtRoller 22 = .ok (.getfield 86, 3) := by decide +kernel
theorem dX3_placeAtRoller_25 : decode cX3_placeAtRoller 25 = .ok (.if_icmp .ge 22, 3) := by decide +kernel
theorem dX3_placeAtRoller_28 : decode cX3_placeAtRoller 28 = .ok (.lload_n 2, 1) := by decide +kernel
theorem dX3_placeAtRoller_29 : decode cX3_placeAtRoller 29 = .ok (.aload_n 0, 1) := by decide +kernel
theorem dX3_placeAtRoller_30 : decode cX3_placeAtRoller 30 = .ok (.getfield 55, 3) := by decide +kernel
theorem dX3_placeAtRoller_33 : decode cX3_placeAtRoller 33 = .ok (.iload 4, 2) := by decide +kernel
theorem dX3_placeAtRoller_35 : decode cX3_placeAtRoller 35 = .ok (.aaload, 1) := by decide +kernel
theorem dX3_placeAtRoller_36 : decode cX3_placeAtRoller 36 = .ok (.getfield 159, 3) := by decide +kernel
theorem dX3_placeAtRoller_39 : decode cX3_placeAtRoller 39 = .ok (.lsub, 1) := by decide +kernel
theorem dX3_placeAtRoller_40 : decode cX3_placeAtRoller 40 = .ok (.lstore_n 2, 1) := by decide +kernel
theorem dX3_placeAtRoller_41 : decode cX3_placeAtRoller 41 = .ok (.iinc 4 1, 3) := by decide +kernel
theorem dX3_placeAtRoller_44 : decode cX3_placeAtRoller 44 = .ok (.goto (-31), 3) := by decide +kernel
theorem dX3_placeAtRoller_47 : decode cX3_placeAtRoller 47 = .ok (.lload_n 2, 1) := by decide +kernel
theorem dX3_placeAtRoller_48 : decode cX3_placeAtRoller 48 = .ok (.lreturn, 1) := by decide +kernel
theorem dX3_marksIn_0 : decode cX3_marksIn 0 = .ok (.aload_n 0, 1) := by decide +kernel
theorem dX3_marksIn_1 : decode cX3_marksIn 1 = .ok (.getfield 42, 3) := by decide +kernel
theorem dX3_marksIn_4 : decode cX3_marksIn 4 = .ok (.aload_n 0, 1) := by decide +kernel
theorem dX3_marksIn_5 : decode cX3_marksIn 5 = .ok (.iload_n 1, 1) := by decide +kernel
theorem dX3_marksIn_6 : decode cX3_marksIn 6 = .ok (.iconst 1, 1) := by decide +kernel
theorem dX3_marksIn_7 : decode cX3_marksIn 7 = .ok (.iadd, 1) := by decide +kernel
theorem dX3_marksIn_8 : decode cX3_marksIn 8 = .ok (.invokevirtual 162, 3) := by decide +kernel
theorem dX3_marksIn_11 : decode cX3_marksIn 11 = .ok (.aload_n 0, 1) := by decide +kernel
theorem dX3_marksIn_12 : decode cX3_marksIn 12 = .ok (.iload_n 1, 1) := by decide +kernel
theorem dX3_marksIn_13 : decode cX3_marksIn 13 = .ok (.invokevirtual 162, 3) := by decide +kernel
theorem dX3_marksIn_16 : decode cX3_marksIn 16 = .ok (.invokevirtual 166, 3) := by decide +kernel
theorem dX3_marksIn_19 : decode cX3_marksIn 19 = .ok (.ireturn, 1) := by decide +kernel
theorem dX3_threadAnew_0 : decode cX3_threadAnew 0 = .ok (.aload_n 0, 1) := by decide +kernel
theorem dX3_threadAnew_1 : decode cX3_threadAnew 1 = .ok (.iconst 0, 1) := by decide +kernel
theorem dX3_threadAnew_2 : decode cX3_threadAnew 2 = .ok (.putfield 97, 3) := by decide +kernel
theorem dX3_threadAnew_5 : decode cX3_threadAnew 5 = .ok (.aload_n 0, 1) := by decide +kernel
theorem dX3_threadAnew_6 : decode cX3_threadAnew 6 = .ok (.getfield 21, 3) := by decide +kernel
theorem dX3_threadAnew_9 : decode cX3_threadAnew 9 = .ok (.iconst 0, 1) := by decide +kernel
theorem dX3_threadAnew_10 : decode cX3_threadAnew 10 = .ok (.putfield 135, 3) := by decide +kernel
theorem dX3_threadAnew_13 : decode cX3_threadAnew 13 = .ok (.aload_n 0, 1) := by decide +kernel
theorem dX3_threadAnew_14 : decode cX3_threadAnew 14 = .ok (.getfield 42, 3) := by decide +kernel
theorem dX3_threadAnew_17 : decode cX3_threadAnew 17 = .ok (.invokevirtual 81, 3) := by decide +kernel
theorem dX3_threadAnew_20 : decode cX3_threadAnew 20 = .ok (.aload_n 0, 1) := by decide +kernel
theorem dX3_threadAnew_21 : decode cX3_threadAnew 21 = .ok (.getfield 28, 3) := by decide +kernel
theorem dX3_threadAnew_24 : decode cX3_threadAnew 24 = .ok (.lconst 0, 1) := by decide +kernel
theorem dX3_threadAnew_25 : decode cX3_threadAnew 25 = .ok (.aload_n 0, 1) := by decide +kernel
theorem dX3_threadAnew_26 : decode cX3_threadAnew 26 = .ok (.getfield 28, 3) := by decide +kernel
theorem dX3_threadAnew_29 : decode cX3_threadAnew 29 = .ok (.getfield 170, 3) := by decide +kernel
theorem dX3_threadAnew_32 : decode cX3_threadAnew 32 = .ok (.invokestatic 149, 3) := by decide +kernel
theorem dX3_threadAnew_35 : decode cX3_threadAnew 35 = .ok (.putfield 170, 3) := by decide +kernel
theorem dX3_threadAnew_38 : decode cX3_threadAnew 38 = .ok (.iconst 0, 1) := by decide +kernel
theorem dX3_threadAnew_39 : decode cX3_threadAnew 39 = .ok (.istore_n 1, 1) := by decide +kernel
theorem dX3_threadAnew_40 : decode cX3_threadAnew 40 = .ok (.iload_n 1, 1) := by decide +kernel
theorem dX3_threadAnew_41 : decode cX3_threadAnew 41 = .ok (.aload_n 0, 1) := by decide +kernel
theorem dX3_threadAnew_42 : decode cX3_threadAnew 42 = .ok (.getfield 86, 3) := by decide +kernel
theorem dX3_threadAnew_45 : decode cX3_threadAnew 45 = .ok (.if_icmp .ge 30, 3) := by decide +kernel
theorem dX3_threadAnew_48 : decode cX3_threadAnew 48 = .ok (.aload_n 0, 1) := by decide +kernel
theorem dX3_threadAnew_49 : decode cX3_threadAnew 49 = .ok (.getfield 61, 3) := by decide +kernel
theorem dX3_threadAnew_52 : decode cX3_threadAnew 52 = .ok (.iload_n 1, 1) := by decide +kernel
theorem dX3_threadAnew_53 : decode cX3_threadAnew 53 = .ok (.iconst 1, 1) := by decide +kernel
theorem dX3_threadAnew_54 : decode cX3_threadAnew 54 = .ok (.iadd, 1) := by decide +kernel
theorem dX3_threadAnew_55 : decode cX3_threadAnew 55 = .ok (.aaload, 1) := by decide +kernel
theorem dX3_threadAnew_56 : decode cX3_threadAnew 56 = .ok (.iconst 0, 1) := by decide +kernel
theorem dX3_threadAnew_57 : decode cX3_threadAnew 57 = .ok (.putfield 146, 3) := by decide +kernel
theorem dX3_threadAnew_60 : decode cX3_threadAnew 60 = .ok (.aload_n 0, 1) := by decide +kernel
theorem dX3_threadAnew_61 : decode cX3_threadAnew 61 = .ok (.getfield 55, 3) := by decide +kernel
theorem dX3_threadAnew_64 : decode cX3_threadAnew 64 = .ok (.iload_n 1, 1) := by decide +kernel
theorem dX3_threadAnew_65 : decode cX3_threadAnew 65 = .ok (.aaload, 1) := by decide +kernel
theorem dX3_threadAnew_66 : decode cX3_threadAnew 66 = .ok (.invokevirtual 173, 3) := by decide +kernel
theorem dX3_threadAnew_69 : decode cX3_threadAnew 69 = .ok (.iinc 1 1, 3) := by decide +kernel
theorem dX3_threadAnew_72 : decode cX3_threadAnew 72 = .ok (.goto (-32), 3) := by decide +kernel
theorem dX3_threadAnew_75 : decode cX3_threadAnew 75 = .ok (.return_, 1) := by decide +kernel
theorem dX3_tick_0 : decode cX3_tick 0 = .ok (.aload_n 0, 1) := by decide +kernel
theorem dX3_tick_1 : decode cX3_tick 1 = .ok (.getfield 97, 3) := by decide +kernel
theorem dX3_tick_4 : decode cX3_tick 4 = .ok (.ifCond .eq 4, 3) := by decide +kernel
theorem dX3_tick_7 : decode cX3_tick 7 = .ok (.return_, 1) := by decide +kernel
theorem dX3_tick_8 : decode cX3_tick 8 = .ok (.aload_n 0, 1) := by decide +kernel
theorem dX3_tick_9 : decode cX3_tick 9 = .ok (.dup, 1) := by decide +kernel
theorem dX3_tick_10 : decode cX3_tick 10 = .ok (.getfield 94, 3) := by decide +kernel
theorem dX3_tick_13 : decode cX3_tick 13 = .ok (.iconst 1, 1) := by decide +kernel
theorem dX3_tick_14 : decode cX3_tick 14 = .ok (.iadd, 1) := by decide +kernel
theorem dX3_tick_15 : decode cX3_tick 15 = .ok (.putfield 94, 3) := by decide +kernel
theorem dX3_tick_18 : decode cX3_tick 18 = .ok (.aload_n 0, 1) := by decide +kernel
theorem dX3_tick_19 : decode cX3_tick 19 = .ok (.getfield 21, 3) := by decide +kernel
theorem dX3_tick_22 : decode cX3_tick 22 = .ok (.aload_n 0, 1) := by decide +kernel
theorem dX3_tick_23 : decode cX3_tick 23 = .ok (.getfield 28, 3) := by decide +kernel
theorem dX3_tick_26 : decode cX3_tick 26 = .ok (.aload_n 0, 1) := by decide +kernel
theorem dX3_tick_27 : decode cX3_tick 27 = .ok (.getfield 21, 3) := by decide +kernel
theorem dX3_tick_30 : decode cX3_tick 30 = .ok (.getfield 176, 3) := by decide +kernel
theorem dX3_tick_33 : decode cX3_tick 33 = .ok (.invokevirtual 179, 3) := by decide +kernel
theorem dX3_tick_36 : decode cX3_tick 36 = .ok (.invokevirtual 182, 3) := by decide +kernel
theorem dX3_tick_39 : decode cX3_tick 39 = .ok (.aload_n 0, 1) := by decide +kernel
theorem dX3_tick_40 : decode cX3_tick 40 = .ok (.invokevirtual 186, 3) := by decide +kernel
theorem dX3_tick_43 : decode cX3_tick 43 = .ok (.aload_n 0, 1) := by decide +kernel
theorem dX3_tick_44 : decode cX3_tick 44 = .ok (.invokevirtual 189, 3) := by decide +kernel
theorem dX3_tick_47 : decode cX3_tick 47 = .ok (.aload_n 0, 1) := by decide +kernel
theorem dX3_tick_48 : decode cX3_tick 48 = .ok (.invokevirtual 192, 3) := by decide +kernel
theorem dX3_tick_51 : decode cX3_tick 51 = .ok (.aload_n 0, 1) := by decide +kernel
theorem dX3_tick_52 : decode cX3_tick 52 = .ok (.getfield 21, 3) := by decide +kernel
theorem dX3_tick_55 : decode cX3_tick 55 = .ok (.getfield 135, 3) := by decide +kernel
theorem dX3_tick_58 : decode cX3_tick 58 = .ok (.ifCond .le 7, 3) := by decide +kernel
theorem dX3_tick_61 : decode cX3_tick 61 = .ok (.aload_n 0, 1) := by decide +kernel
theorem dX3_tick_62 : decode cX3_tick 62 = .ok (.invokevirtual 195, 3) := by decide +kernel
theorem dX3_tick_65 : decode cX3_tick 65 = .ok (.aload_n 0, 1) := by decide +kernel
theorem dX3_tick_66 : decode cX3_tick 66 = .ok (.invokevirtual 198, 3) := by decide +kernel
theorem dX3_tick_69 : decode cX3_tick 69 = .ok (.return_, 1) := by decide +kernel
theorem dX3_passWeb_0 : decode cX3_passWeb 0 = .ok (.aload_n 0, 1) := by decide +kernel
theorem dX3_passWeb_1 : decode cX3_passWeb 1 = .ok (.getfield 65, 3) := by decide +kernel
theorem dX3_passWeb_4 : decode cX3_passWeb 4 = .ok (.iconst 0, 1) := by decide +kernel
theorem dX3_passWeb_5 : decode cX3_passWeb 5 = .ok (.aload_n 0, 1) := by decide +kernel
theorem dX3_passWeb_6 : decode cX3_passWeb 6 = .ok (.iconst 0, 1) := by decide +kernel
theorem dX3_passWeb_7 : decode cX3_passWeb 7 = .ok (.invokevirtual 201, 3) := by decide +kernel
theorem dX3_passWeb_10 : decode cX3_passWeb 10 = .ok (.aload_n 0, 1) := by decide +kernel
theorem dX3_passWeb_11 : decode cX3_passWeb 11 = .ok (.getfield 12, 3) := by decide +kernel
theorem dX3_passWeb_14 : decode cX3_passWeb 14 = .ok (.getfield 204, 3) := by decide +kernel
theorem dX3_passWeb_17 : decode cX3_passWeb 17 = .ok (.i2l, 1) := by decide +kernel
theorem dX3_passWeb_18 : decode cX3_passWeb 18 = .ok (.lmul, 1) := by decide +kernel
theorem dX3_passWeb_19 : decode cX3_passWeb 19 = .ok (.aload_n 0, 1) := by decide +kernel
theorem dX3_passWeb_20 : decode cX3_passWeb 20 = .ok (.getfield 12, 3) := by decide +kernel
theorem dX3_passWeb_23 : decode cX3_passWeb 23 = .ok (.getfield 204, 3) := by decide +kernel
theorem dX3_passWeb_26 : decode cX3_passWeb 26 = .ok (.i2l, 1) := by decide +kernel
theorem dX3_passWeb_27 : decode cX3_passWeb 27 = .ok (.aload_n 0, 1) := by decide +kernel
theorem dX3_passWeb_28 : decode cX3_passWeb 28 = .ok (.getfield 12, 3) := by decide +kernel
theorem dX3_passWeb_31 : decode cX3_passWeb 31 = .ok (.getfield 207, 3) := by decide +kernel
theorem dX3_passWeb_34 : decode cX3_passWeb 34 = .ok (.i2l, 1) := by decide +kernel
theorem dX3_passWeb_35 : decode cX3_passWeb 35 = .ok (.ladd, 1) := by decide +kernel
theorem dX3_passWeb_36 : decode cX3_passWeb 36 = .ok (.invokestatic 210, 3) := by decide +kernel
theorem dX3_passWeb_39 : decode cX3_passWeb 39 = .ok (.lastore, 1) := by decide +kernel
theorem dX3_passWeb_40 : decode cX3_passWeb 40 = .ok (.iconst 0, 1) := by decide +kernel
theorem dX3_passWeb_41 : decode cX3_passWeb 41 = .ok (.istore_n 1, 1) := by decide +kernel
theorem dX3_passWeb_42 : decode cX3_passWeb 42 = .ok (.iload_n 1, 1) := by decide +kernel
theorem dX3_passWeb_43 : decode cX3_passWeb 43 = .ok (.aload_n 0, 1) := by decide +kernel
theorem dX3_passWeb_44 : decode cX3_passWeb 44 = .ok (.getfield 86, 3) := by decide +kernel
theorem dX3_passWeb_47 : decode cX3_passWeb 47 = .ok (.if_icmp .ge 46, 3) := by decide +kernel
theorem dX3_passWeb_50 : decode cX3_passWeb 50 = .ok (.aload_n 0, 1) := by decide +kernel
theorem dX3_passWeb_51 : decode cX3_passWeb 51 = .ok (.getfield 65, 3) := by decide +kernel
theorem dX3_passWeb_54 : decode cX3_passWeb 54 = .ok (.iload_n 1, 1) := by decide +kernel
theorem dX3_passWeb_55 : decode cX3_passWeb 55 = .ok (.iconst 1, 1) := by decide +kernel
theorem dX3_passWeb_56 : decode cX3_passWeb 56 = .ok (.iadd, 1) := by decide +kernel
theorem dX3_passWeb_57 : decode cX3_passWeb 57 = .ok (.aload_n 0, 1) := by decide +kernel
theorem dX3_passWeb_58 : decode cX3_passWeb 58 = .ok (.iload_n 1, 1) := by decide +kernel
theorem dX3_passWeb_59 : decode cX3_passWeb 59 = .ok (.iconst 1, 1) := by decide +kernel
theorem dX3_passWeb_60 : decode cX3_passWeb 60 = .ok (.iadd, 1) := by decide +kernel
theorem dX3_passWeb_61 : decode cX3_passWeb 61 = .ok (.invokevirtual 201, 3) := by decide +kernel
theorem dX3_passWeb_64 : decode cX3_passWeb 64 = .ok (.aload_n 0, 1) := by decide +kernel
theorem dX3_passWeb_65 : decode cX3_passWeb 65 = .ok (.getfield 55, 3) := by decide +kernel
theorem dX3_passWeb_68 : decode cX3_passWeb 68 = .ok (.iload_n 1, 1) := by decide +kernel
theorem dX3_passWeb_69 : decode cX3_passWeb 69 = .ok (.aaload, 1) := by decide +kernel
theorem dX3_passWeb_70 : decode cX3_passWeb 70 = .ok (.getfield 159, 3) := by decide +kernel
theorem dX3_passWeb_73 : decode cX3_passWeb 73 = .ok (.lmul, 1) := by decide +kernel
theorem dX3_passWeb_74 : decode cX3_passWeb 74 = .ok (.aload_n 0, 1) := by decide +kernel
theorem dX3_passWeb_75 : decode cX3_passWeb 75 = .ok (.getfield 55, 3) := by decide +kernel
theorem dX3_passWeb_78 : decode cX3_passWeb 78 = .ok (.iload_n 1, 1) := by decide +kernel
theorem dX3_passWeb_79 : decode cX3_passWeb 79 = .ok (.aaload, 1) := by decide +kernel
theorem dX3_passWeb_80 : decode cX3_passWeb 80 = .ok (.invokevirtual 213, 3) := by decide +kernel
theorem dX3_passWeb_83 : decode cX3_passWeb 83 = .ok (.invokestatic 210, 3) := by decide +kernel
theorem dX3_passWeb_86 : decode cX3_passWeb 86 = .ok (.lastore, 1) := by decide +kernel
theorem dX3_passWeb_87 : decode cX3_passWeb 87 = .ok (.iinc 1 1, 3) := by decide +kernel
theorem dX3_passWeb_90 : decode cX3_passWeb 90 = .ok (.goto (-48), 3) := by decide +kernel
theorem dX3_passWeb_93 : decode cX3_passWeb 93 = .ok (.aload_n 0, 1) := by decide +kernel
theorem dX3_passWeb_94 : decode cX3_passWeb 94 = .ok (.getfield 61, 3) := by decide +kernel
theorem dX3_passWeb_97 : decode cX3_passWeb 97 = .ok (.iconst 0, 1) := by decide +kernel
theorem dX3_passWeb_98 : decode cX3_passWeb 98 = .ok (.aaload, 1) := by decide +kernel
theorem dX3_passWeb_99 : decode cX3_passWeb 99 = .ok (.dup, 1) := by decide +kernel
theorem dX3_passWeb_100 : decode cX3_passWeb 100 = .ok (.getfield 155, 3) := by decide +kernel
theorem dX3_passWeb_103 : decode cX3_passWeb 103 = .ok (.aload_n 0, 1) := by decide +kernel
theorem dX3_passWeb_104 : decode cX3_passWeb 104 = .ok (.getfield 65, 3) := by decide +kernel
theorem dX3_passWeb_107 : decode cX3_passWeb 107 = .ok (.iconst 0, 1) := by decide +kernel
theorem dX3_passWeb_108 : decode cX3_passWeb 108 = .ok (.laload, 1) := by decide +kernel
theorem dX3_passWeb_109 : decode cX3_passWeb 109 = .ok (.ladd, 1) := by decide +kernel
theorem dX3_passWeb_110 : decode cX3_passWeb 110 = .ok (.putfield 155, 3) := by decide +kernel
theorem dX3_passWeb_113 : decode cX3_passWeb 113 = .ok (.iconst 0, 1) := by decide +kernel
theorem dX3_passWeb_114 : decode cX3_passWeb 114 = .ok (.istore_n 1, 1) := by decide +kernel
theorem dX3_passWeb_115 : decode cX3_passWeb 115 = .ok (.iload_n 1, 1) := by decide +kernel
theorem dX3_passWeb_116 : decode cX3_passWeb 116 = .ok (.aload_n 0, 1) := by decide +kernel
theorem dX3_passWeb_117 : decode cX3_passWeb 117 = .ok (.getfield 86, 3) := by decide +kernel
theorem dX3_passWeb_120 : decode cX3_passWeb 120 = .ok (.if_icmp .ge 62, 3) := by decide +kernel
theorem dX3_passWeb_123 : decode cX3_passWeb 123 = .ok (.aload_n 0, 1) := by decide +kernel
theorem dX3_passWeb_124 : decode cX3_passWeb 124 = .ok (.getfield 61, 3) := by decide +kernel
theorem dX3_passWeb_127 : decode cX3_passWeb 127 = .ok (.iload_n 1, 1) := by decide +kernel
theorem dX3_passWeb_128 : decode cX3_passWeb 128 = .ok (.iconst 1, 1) := by decide +kernel
theorem dX3_passWeb_129 : decode cX3_passWeb 129 = .ok (.iadd, 1) := by decide +kernel
theorem dX3_passWeb_130 : decode cX3_passWeb 130 = .ok (.aaload, 1) := by decide +kernel
theorem dX3_passWeb_131 : decode cX3_passWeb 131 = .ok (.dup, 1) := by decide +kernel
theorem dX3_passWeb_132 : decode cX3_passWeb 132 = .ok (.getfield 155, 3) := by decide +kernel
theorem dX3_passWeb_135 : decode cX3_passWeb 135 = .ok (.aload_n 0, 1) := by decide +kernel
theorem dX3_passWeb_136 : decode cX3_passWeb 136 = .ok (.getfield 65, 3) := by decide +kernel
theorem dX3_passWeb_139 : decode cX3_passWeb 139 = .ok (.iload_n 1, 1) := by decide +kernel
theorem dX3_passWeb_140 : decode cX3_passWeb 140 = .ok (.iconst 1, 1) := by decide +kernel
theorem dX3_passWeb_141 : decode cX3_passWeb 141 = .ok (.iadd, 1) := by decide +kernel
theorem dX3_passWeb_142 : decode cX3_passWeb 142 = .ok (.laload, 1) := by decide +kernel
theorem dX3_passWeb_143 : decode cX3_passWeb 143 = .ok (.ladd, 1) := by decide +kernel
theorem dX3_passWeb_144 : decode cX3_passWeb 144 = .ok (.putfield 155, 3) := by decide +kernel
theorem dX3_passWeb_147 : decode cX3_passWeb 147 = .ok (.aload_n 0, 1) := by decide +kernel
theorem dX3_passWeb_148 : decode cX3_passWeb 148 = .ok (.getfield 55, 3) := by decide +kernel
theorem dX3_passWeb_151 : decode cX3_passWeb 151 = .ok (.iload_n 1, 1) := by decide +kernel
theorem dX3_passWeb_152 : decode cX3_passWeb 152 = .ok (.aaload, 1) := by decide +kernel
theorem dX3_passWeb_153 : decode cX3_passWeb 153 = .ok (.dup, 1) := by decide +kernel
theorem dX3_passWeb_154 : decode cX3_passWeb 154 = .ok (.getfield 159, 3) := by decide +kernel
theorem dX3_passWeb_157 : decode cX3_passWeb 157 = .ok (.aload_n 0, 1) := by decide +kernel
theorem dX3_passWeb_158 : decode cX3_passWeb 158 = .ok (.getfield 65, 3) := by decide +kernel
theorem dX3_passWeb_161 : decode cX3_passWeb 161 = .ok (.iload_n 1, 1) := by decide +kernel
theorem dX3_passWeb_162 : decode cX3_passWeb 162 = .ok (.laload, 1) := by decide +kernel
theorem dX3_passWeb_163 : decode cX3_passWeb 163 = .ok (.aload_n 0, 1) := by decide +kernel
theorem dX3_passWeb_164 : decode cX3_passWeb 164 = .ok (.getfield 65, 3) := by decide +kernel
theorem dX3_passWeb_167 : decode cX3_passWeb 167 = .ok (.iload_n 1, 1) := by decide +kernel
theorem dX3_passWeb_168 : decode cX3_passWeb 168 = .ok (.iconst 1, 1) := by decide +kernel
theorem dX3_passWeb_169 : decode cX3_passWeb 169 = .ok (.iadd, 1) := by decide +kernel
theorem dX3_passWeb_170 : decode cX3_passWeb 170 = .ok (.laload, 1) := by decide +kernel
theorem dX3_passWeb_171 : decode cX3_passWeb 171 = .ok (.lsub, 1) := by decide +kernel
theorem dX3_passWeb_172 : decode cX3_passWeb 172 = .ok (.ladd, 1) := by decide +kernel
theorem dX3_passWeb_173 : decode cX3_passWeb 173 = .ok (.putfield 159, 3) := by decide +kernel
theorem dX3_passWeb_176 : decode cX3_passWeb 176 = .ok (.iinc 1 1, 3) := by decide +kernel
theorem dX3_passWeb_179 : decode cX3_passWeb 179 = .ok (.goto (-64), 3) := by decide +kernel
theorem dX3_passWeb_182 : decode cX3_passWeb 182 = .ok (.return_, 1) := by decide +kernel
theorem dX3_unwind_0 : decode cX3_unwind 0 = .ok (.aload_n 0, 1) := by decide +kernel
theorem dX3_unwind_1 : decode cX3_unwind 1 = .ok (.getfield 28, 3) := by decide +kernel
theorem dX3_unwind_4 : decode cX3_unwind 4 = .ok (.dup, 1) := by decide +kernel
theorem dX3_unwind_5 : decode cX3_unwind 5 = .ok (.getfield 170, 3) := by decide +kernel
theorem dX3_unwind_8 : decode cX3_unwind 8 = .ok (.aload_n 0, 1) := by decide +kernel
theorem dX3_unwind_9 : decode cX3_unwind 9 = .ok (.getfield 65, 3) := by decide +kernel
theorem dX3_unwind_12 : decode cX3_unwind 12 = .ok (.iconst 0, 1) := by decide +kernel
theorem dX3_unwind_13 : decode cX3_unwind 13 = .ok (.laload, 1) := by decide +kernel
theorem dX3_unwind_14 : decode cX3_unwind 14 = .ok (.lsub, 1) := by decide +kernel
theorem dX3_unwind_15 : decode cX3_unwind 15 = .ok (.putfield 170, 3) := by decide +kernel
theorem dX3_unwind_18 : decode cX3_unwind 18 = .ok (.aload_n 0, 1) := by decide +kernel
theorem dX3_unwind_19 : decode cX3_unwind 19 = .ok (.getfield 28, 3) := by decide +kernel
theorem dX3_unwind_22 : decode cX3_unwind 22 = .ok (.getfield 170, 3) := by decide +kernel
theorem dX3_unwind_25 : decode cX3_unwind 25 = .ok (.lconst 0, 1) := by decide +kernel
theorem dX3_unwind_26 : decode cX3_unwind 26 = .ok (.lcmp, 1) := by decide +kernel
theorem dX3_unwind_27 : decode cX3_unwind 27 = .ok (.ifCond .lt 4, 3) := by decide +kernel
theorem dX3_unwind_30 : decode cX3_unwind 30 = .ok (.return_, 1) := by decide +kernel
theorem dX3_unwind_31 : decode cX3_unwind 31 = .ok (.aload_n 0, 1) := by decide +kernel
theorem dX3_unwind_32 : decode cX3_unwind 32 = .ok (.getfield 28, 3) := by decide +kernel
theorem dX3_unwind_35 : decode cX3_unwind 35 = .ok (.getfield 217, 3) := by decide +kernel
theorem dX3_unwind_38 : decode cX3_unwind 38 = .ok (.ifCond .ne 24, 3) := by decide +kernel
theorem dX3_unwind_41 : decode cX3_unwind 41 = .ok (.aload_n 0, 1) := by decide +kernel
theorem dX3_unwind_42 : decode cX3_unwind 42 = .ok (.iconst 2, 1) := by decide +kernel
theorem dX3_unwind_43 : decode cX3_unwind 43 = .ok (.putfield 97, 3) := by decide +kernel
theorem dX3_unwind_46 : decode cX3_unwind 46 = .ok (.aload_n 0, 1) := by decide +kernel
theorem dX3_unwind_47 : decode cX3_unwind 47 = .ok (.getfield 49, 3) := by decide +kernel
theorem dX3_unwind_50 : decode cX3_unwind 50 = .ok (.aload_n 0, 1) := by decide +kernel
theorem dX3_unwind_51 : decode cX3_unwind 51 = .ok (.getfield 94, 3) := by decide +kernel
theorem dX3_unwind_54 : decode cX3_unwind 54 = .ok (.iconst 4, 1) := by decide +kernel
theorem dX3_unwind_55 : decode cX3_unwind 55 = .ok (.iconst 0, 1) := by decide +kernel
theorem dX3_unwind_56 : decode cX3_unwind 56 = .ok (.invokevirtual 220, 3) := by decide +kernel
theorem dX3_unwind_59 : decode cX3_unwind 59 = .ok (.goto 72, 3) := by decide +kernel
theorem dX3_unwind_62 : decode cX3_unwind 62 = .ok (.aload_n 0, 1) := by decide +kernel
theorem dX3_unwind_63 : decode cX3_unwind 63 = .ok (.getfield 21, 3) := by decide +kernel
theorem dX3_unwind_66 : decode cX3_unwind 66 = .ok (.getfield 135, 3) := by decide +kernel
theorem dX3_unwind_69 : decode cX3_unwind 69 = .ok (.aload_n 0, 1) := by decide +kernel
theorem dX3_unwind_70 : decode cX3_unwind 70 = .ok (.getfield 21, 3) := by decide +kernel
theorem dX3_unwind_73 : decode cX3_unwind 73 = .ok (.getfield 224, 3) := by decide +kernel
theorem dX3_unwind_76 : decode cX3_unwind 76 = .ok (.if_icmp .le 11, 3) := by decide +kernel
theorem dX3_unwind_79 : decode cX3_unwind 79 = .ok (.aload_n 0, 1) := by decide +kernel
theorem dX3_unwind_80 : decode cX3_unwind 80 = .ok (.iconst (-1), 1) := by decide +kernel
theorem dX3_unwind_81 : decode cX3_unwind 81 = .ok (.invokevirtual 227, 3) := by decide +kernel
theorem dX3_unwind_84 : decode cX3_unwind 84 = .ok (.goto 47, 3) := by decide +kernel
theorem dX3_unwind_87 : decode cX3_unwind 87 = .ok (.aload_n 0, 1) := by decide +kernel
theorem dX3_unwind_88 : decode cX3_unwind 88 = .ok (.getfield 49, 3) := by decide +kernel
theorem dX3_unwind_91 : decode cX3_unwind 91 = .ok (.aload_n 0, 1) := by decide +kernel
theorem dX3_unwind_92 : decode cX3_unwind 92 = .ok (.getfield 94, 3) := by decide +kernel
theorem dX3_unwind_95 : decode cX3_unwind 95 = .ok (.iconst 0, 1) := by decide +kernel
theorem dX3_unwind_96 : decode cX3_unwind 96 = .ok (.iconst 0, 1) := by decide +kernel
theorem dX3_unwind_97 : decode cX3_unwind 97 = .ok (.invokevirtual 220, 3) := by decide +kernel
theorem dX3_unwind_100 : decode cX3_unwind 100 = .ok (.aload_n 0, 1) := by decide +kernel
theorem dX3_unwind_101 : decode cX3_unwind 101 = .ok (.getfield 42, 3) := by decide +kernel
theorem dX3_unwind_104 : decode cX3_unwind 104 = .ok (.aload_n 0, 1) := by decide +kernel
theorem dX3_unwind_105 : decode cX3_unwind 105 = .ok (.getfield 61, 3) := by decide +kernel
theorem dX3_unwind_108 : decode cX3_unwind 108 = .ok (.iconst 0, 1) := by decide +kernel
theorem dX3_unwind_109 : decode cX3_unwind 109 = .ok (.aaload, 1) := by decide +kernel
theorem dX3_unwind_110 : decode cX3_unwind 110 = .ok (.getfield 155, 3) := by decide +kernel
theorem dX3_unwind_113 : decode cX3_unwind 113 = .ok (.aload_n 0, 1) := by decide +kernel
theorem dX3_unwind_114 : decode cX3_unwind 114 = .ok (.getfield 28, 3) := by decide +kernel
theorem dX3_unwind_117 : decode cX3_unwind 117 = .ok (.getfield 170, 3) := by decide +kernel
theorem dX3_unwind_120 : decode cX3_unwind 120 = .ok (.ladd, 1) := by decide +kernel
theorem dX3_unwind_121 : decode cX3_unwind 121 = .ok (.invokevirtual 230, 3) := by decide +kernel
theorem dX3_unwind_124 : decode cX3_unwind 124 = .ok (.aload_n 0, 1) := by decide +kernel
theorem dX3_unwind_125 : decode cX3_unwind 125 = .ok (.getfield 28, 3) := by decide +kernel
theorem dX3_unwind_128 : decode cX3_unwind 128 = .ok (.invokevirtual 233, 3) := by decide +kernel
theorem dX3_unwind_131 : decode cX3_unwind 131 = .ok (.return_, 1) := by decide +kernel
theorem dX3_breakWeb_0 : decode cX3_breakWeb 0 = .ok (.aload_n 0, 1) := by decide +kernel
theorem dX3_breakWeb_1 : decode cX3_breakWeb 1 = .ok (.iconst 1, 1) := by decide +kernel
theorem dX3_breakWeb_2 : decode cX3_breakWeb 2 = .ok (.putfield 97, 3) := by decide +kernel
theorem dX3_breakWeb_5 : decode cX3_breakWeb 5 = .ok (.aload_n 0, 1) := by decide +kernel
theorem dX3_breakWeb_6 : decode cX3_breakWeb 6 = .ok (.iload_n 1, 1) := by decide +kernel
theorem dX3_breakWeb_7 : decode cX3_breakWeb 7 = .ok (.putfield 101, 3) := by decide +kernel
theorem dX3_breakWeb_10 : decode cX3_breakWeb 10 = .ok (.aload_n 0, 1) := by decide +kernel
theorem dX3_breakWeb_11 : decode cX3_breakWeb 11 = .ok (.getfield 49, 3) := by decide +kernel
theorem dX3_breakWeb_14 : decode cX3_breakWeb 14 = .ok (.aload_n 0, 1) := by decide +kernel
theorem dX3_breakWeb_15 : decode cX3_breakWeb 15 = .ok (.getfield 94, 3) := by decide +kernel
theorem dX3_breakWeb_18 : decode cX3_breakWeb 18 = .ok (.iconst 1, 1) := by decide +kernel
theorem dX3_breakWeb_19 : decode cX3_breakWeb 19 = .ok (.iload_n 1, 1) := by decide +kernel
theorem dX3_breakWeb_20 : decode cX3_breakWeb 20 = .ok (.invokevirtual 220, 3) := by decide +kernel
theorem dX3_breakWeb_23 : decode cX3_breakWeb 23 = .ok (.return_, 1) := by decide +kernel
theorem dX3_wind_0 : decode cX3_wind 0 = .ok (.aload_n 0, 1) := by decide +kernel
theorem dX3_wind_1 : decode cX3_wind 1 = .ok (.getfield 35, 3) := by decide +kernel
theorem dX3_wind_4 : decode cX3_wind 4 = .ok (.aload_n 0, 1) := by decide +kernel
theorem dX3_wind_5 : decode cX3_wind 5 = .ok (.getfield 65, 3) := by decide +kernel
theorem dX3_wind_8 : decode cX3_wind 8 = .ok (.aload_n 0, 1) := by decide +kernel
theorem dX3_wind_9 : decode cX3_wind 9 = .ok (.getfield 86, 3) := by decide +kernel
theorem dX3_wind_12 : decode cX3_wind 12 = .ok (.laload, 1) := by decide +kernel
theorem dX3_wind_13 : decode cX3_wind 13 = .ok (.invokevirtual 236, 3) := by decide +kernel
theorem dX3_wind_16 : decode cX3_wind 16 = .ok (.ifCond .eq 22, 3) := by decide +kernel
theorem dX3_wind_19 : decode cX3_wind 19 = .ok (.aload_n 0, 1) := by decide +kernel
theorem dX3_wind_20 : decode cX3_wind 20 = .ok (.getfield 49, 3) := by decide +kernel
theorem dX3_wind_23 : decode cX3_wind 23 = .ok (.aload_n 0, 1) := by decide +kernel
theorem dX3_wind_24 : decode cX3_wind 24 = .ok (.getfield 94, 3) := by decide +kernel
theorem dX3_wind_27 : decode cX3_wind 27 = .ok (.iconst 5, 1) := by decide +kernel
theorem dX3_wind_28 : decode cX3_wind 28 = .ok (.aload_n 0, 1) := by decide +kernel
theorem dX3_wind_29 : decode cX3_wind 29 = .ok (.getfield 35, 3) := by decide +kernel
theorem dX3_wind_32 : decode cX3_wind 32 = .ok (.getfield 240, 3) := by decide +kernel
theorem dX3_wind_35 : decode cX3_wind 35 = .ok (.invokevirtual 220, 3) := by decide +kernel
theorem dX3_wind_38 : decode cX3_wind 38 = .ok (.return_, 1) := by decide +kernel
theorem dX3_control_0 : decode cX3_control 0 = .ok (.iconst 0, 1) := by decide +kernel
theorem dX3_control_1 : decode cX3_control 1 = .ok (.istore_n 1, 1) := by decide +kernel
theorem dX3_control_2 : decode cX3_control 2 = .ok (.iload_n 1, 1) := by decide +kernel
theorem dX3_control_3 : decode cX3_control 3 = .ok (.aload_n 0, 1) := by decide +kernel
theorem dX3_control_4 : decode cX3_control 4 = .ok (.getfield 86, 3) := by decide +kernel
theorem dX3_control_7 : decode cX3_control 7 = .ok (.if_icmp .ge 94, 3) := by decide +kernel
theorem dX3_control_10 : decode cX3_control 10 = .ok (.aload_n 0, 1) := by decide +kernel
theorem dX3_control_11 : decode cX3_control 11 = .ok (.getfield 55, 3) := by decide +kernel
theorem dX3_control_14 : decode cX3_control 14 = .ok (.iload_n 1, 1) := by decide +kernel
theorem dX3_control_15 : decode cX3_control 15 = .ok (.aaload, 1) := by decide +kernel
theorem dX3_control_16 : decode cX3_control 16 = .ok (.astore_n 2, 1) := by decide +kernel
theorem dX3_control_17 : decode cX3_control 17 = .ok (.aload_n 0, 1) := by decide +kernel
theorem dX3_control_18 : decode cX3_control 18 = .ok (.getfield 61, 3) := by decide +kernel
theorem dX3_control_21 : decode cX3_control 21 = .ok (.iload_n 1, 1) := by decide +kernel
theorem dX3_control_22 : decode cX3_control 22 = .ok (.iconst 1, 1) := by decide +kernel
theorem dX3_control_23 : decode cX3_control 23 = .ok (.iadd, 1) := by decide +kernel
theorem dX3_control_24 : decode cX3_control 24 = .ok (.aaload, 1) := by decide +kernel
theorem dX3_control_25 : decode cX3_control 25 = .ok (.astore_n 3, 1) := by decide +kernel
theorem dX3_control_26 : decode cX3_control 26 = .ok (.aload_n 2, 1) := by decide +kernel
theorem dX3_control_27 : decode cX3_control 27 = .ok (.aload_n 0, 1) := by decide +kernel
theorem dX3_control_28 : decode cX3_control 28 = .ok (.getfield 12, 3) := by decide +kernel
theorem dX3_control_31 : decode cX3_control 31 = .ok (.getfield 204, 3) := by decide +kernel
theorem dX3_control_34 : decode cX3_control 34 = .ok (.invokevirtual 243, 3) := by decide +kernel
theorem dX3_control_37 : decode cX3_control 37 = .ok (.lstore 4, 2) := by decide +kernel
theorem dX3_control_39 : decode cX3_control 39 = .ok (.aload_n 2, 1) := by decide +kernel
theorem dX3_control_40 : decode cX3_control 40 = .ok (.getfield 246, 3) := by decide +kernel
theorem dX3_control_43 : decode cX3_control 43 = .ok (.iconst 1, 1) := by decide +kernel
theorem dX3_control_44 : decode cX3_control 44 = .ok (.if_icmp .ne 26, 3) := by decide +kernel
theorem dX3_control_47 : decode cX3_control 47 = .ok (.aload_n 2, 1) := by decide +kernel
theorem dX3_control_48 : decode cX3_control 48 = .ok (.getfield 249, 3) := by decide +kernel
theorem dX3_control_51 : decode cX3_control 51 = .ok (.lload 4, 2) := by decide +kernel
theorem dX3_control_53 : decode cX3_control 53 = .ok (.invokevirtual 253, 3) := by decide +kernel
theorem dX3_control_56 : decode cX3_control 56 = .ok (.aload_n 3, 1) := by decide +kernel
theorem dX3_control_57 : decode cX3_control 57 = .ok (.aload_n 2, 1) := by decide +kernel
theorem dX3_control_58 : decode cX3_control 58 = .ok (.getfield 249, 3) := by decide +kernel
theorem dX3_control_61 : decode cX3_control 61 = .ok (.invokevirtual 258, 3) := by decide +kernel
theorem dX3_control_64 : decode cX3_control 64 = .ok (.putfield 146, 3) := by decide +kernel
theorem dX3_control_67 : decode cX3_control 67 = .ok (.goto 28, 3) := by decide +kernel
theorem dX3_control_70 : decode cX3_control 70 = .ok (.aload_n 2, 1) := by decide +kernel
theorem dX3_control_71 : decode cX3_control 71 = .ok (.getfield 246, 3) := by decide +kernel
theorem dX3_control_74 : decode cX3_control 74 = .ok (.iconst 2, 1) := by decide +kernel
theorem dX3_control_75 : decode cX3_control 75 = .ok (.if_icmp .ne 20, 3) := by decide +kernel
theorem dX3_control_78 : decode cX3_control 78 = .ok (.aload_n 3, 1) := by decide +kernel
theorem dX3_control_79 : decode cX3_control 79 = .ok (.aload_n 2, 1) := by decide +kernel
theorem dX3_control_80 : decode cX3_control 80 = .ok (.getfield 261, 3) := by decide +kernel
theorem dX3_control_83 : decode cX3_control 83 = .ok (.aload_n 3, 1) := by decide +kernel
theorem dX3_control_84 : decode cX3_control 84 = .ok (.getfield 146, 3) := by decide +kernel
theorem dX3_control_87 : decode cX3_control 87 = .ok (.lload 4, 2) := by decide +kernel
theorem dX3_control_89 : decode cX3_control 89 = .ok (.invokevirtual 265, 3) := by decide +kernel
theorem dX3_control_92 : decode cX3_control 92 = .ok (.putfield 146, 3) := by decide +kernel
theorem dX3_control_95 : decode cX3_control 95 = .ok (.iinc 1 1, 3) := by decide +kernel
theorem dX3_control_98 : decode cX3_control 98 = .ok (.goto (-96), 3) := by decide +kernel
theorem dX3_control_101 : decode cX3_control 101 = .ok (.return_, 1) := by decide +kernel
theorem dX3_inspect_0 : decode cX3_inspect 0 = .ok (.aload_n 0, 1) := by decide +kernel
theorem dX3_inspect_1 : decode cX3_inspect 1 = .ok (.getfield 42, 3) := by decide +kernel
theorem dX3_inspect_4 : decode cX3_inspect 4 = .ok (.aload_n 0, 1) := by decide +kernel
theorem dX3_inspect_5 : decode cX3_inspect 5 = .ok (.aload_n 0, 1) := by decide +kernel
theorem dX3_inspect_6 : decode cX3_inspect 6 = .ok (.getfield 86, 3) := by decide +kernel
theorem dX3_inspect_9 : decode cX3_inspect 9 = .ok (.invokevirtual 162, 3) := by decide +kernel
theorem dX3_inspect_12 : decode cX3_inspect 12 = .ok (.invokevirtual 271, 3) := by decide +kernel
theorem dX3_inspect_15 : decode cX3_inspect 15 = .ok (.iconst 0, 1) := by decide +kernel
theorem dX3_inspect_16 : decode cX3_inspect 16 = .ok (.istore_n 1, 1) := by decide +kernel
theorem dX3_inspect_17 : decode cX3_inspect 17 = .ok (.iload_n 1, 1) := by decide +kernel
theorem dX3_inspect_18 : decode cX3_inspect 18 = .ok (.aload_n 0, 1) := by decide +kernel
theorem dX3_inspect_19 : decode cX3_inspect 19 = .ok (.getfield 86, 3) := by decide +kernel
theorem dX3_inspect_22 : decode cX3_inspect 22 = .ok (.if_icmp .ge 84, 3) := by decide +kernel
theorem dX3_inspect_25 : decode cX3_inspect 25 = .ok (.aload_n 0, 1) := by decide +kernel
theorem dX3_inspect_26 : decode cX3_inspect 26 = .ok (.getfield 55, 3) := by decide +kernel
theorem dX3_inspect_29 : decode cX3_inspect 29 = .ok (.iload_n 1, 1) := by decide +kernel
theorem dX3_inspect_30 : decode cX3_inspect 30 = .ok (.aaload, 1) := by decide +kernel
theorem dX3_inspect_31 : decode cX3_inspect 31 = .ok (.aload_n 0, 1) := by decide +kernel
theorem dX3_inspect_32 : decode cX3_inspect 32 = .ok (.getfield 12, 3) := by decide +kernel
theorem dX3_inspect_35 : decode cX3_inspect 35 = .ok (.getfield 204, 3) := by decide +kernel
theorem dX3_inspect_38 : decode cX3_inspect 38 = .ok (.invokevirtual 243, 3) := by decide +kernel
theorem dX3_inspect_41 : decode cX3_inspect 41 = .ok (.lstore_n 2, 1) := by decide +kernel
theorem dX3_inspect_42 : decode cX3_inspect 42 = .ok (.aload_n 0, 1) := by decide +kernel
theorem dX3_inspect_43 : decode cX3_inspect 43 = .ok (.getfield 55, 3) := by decide +kernel
theorem dX3_inspect_46 : decode cX3_inspect 46 = .ok (.iload_n 1, 1) := by decide +kernel
theorem dX3_inspect_47 : decode cX3_inspect 47 = .ok (.aaload, 1) := by decide +kernel
theorem dX3_inspect_48 : decode cX3_inspect 48 = .ok (.aload_n 0, 1) := by decide +kernel
theorem dX3_inspect_49 : decode cX3_inspect 49 = .ok (.getfield 55, 3) := by decide +kernel
theorem dX3_inspect_52 : decode cX3_inspect 52 = .ok (.iload_n 1, 1) := by decide +kernel
theorem dX3_inspect_53 : decode cX3_inspect 53 = .ok (.aaload, 1) := by decide +kernel
theorem dX3_inspect_54 : decode cX3_inspect 54 = .ok (.getfield 274, 3) := by decide +kernel
theorem dX3_inspect_57 : decode cX3_inspect 57 = .ok (.lload_n 2, 1) := by decide +kernel
theorem dX3_inspect_58 : decode cX3_inspect 58 = .ok (.invokestatic 149, 3) := by decide +kernel
theorem dX3_inspect_61 : decode cX3_inspect 61 = .ok (.putfield 274, 3) := by decide +kernel
theorem dX3_inspect_64 : decode cX3_inspect 64 = .ok (.aload_n 0, 1) := by decide +kernel
theorem dX3_inspect_65 : decode cX3_inspect 65 = .ok (.iload_n 1, 1) := by decide +kernel
theorem dX3_inspect_66 : decode cX3_inspect 66 = .ok (.lload_n 2, 1) := by decide +kernel
theorem dX3_inspect_67 : decode cX3_inspect 67 = .ok (.invokevirtual 277, 3) := by decide +kernel
theorem dX3_inspect_70 : decode cX3_inspect 70 = .ok (.lload_n 2, 1) := by decide +kernel
theorem dX3_inspect_71 : decode cX3_inspect 71 = .ok (.aload_n 0, 1) := by decide +kernel
theorem dX3_inspect_72 : decode cX3_inspect 72 = .ok (.getfield 12, 3) := by decide +kernel
theorem dX3_inspect_75 : decode cX3_inspect 75 = .ok (.aload_n 0, 1) := by decide +kernel
theorem dX3_inspect_76 : decode cX3_inspect 76 = .ok (.iload_n 1, 1) := by decide +kernel
theorem dX3_inspect_77 : decode cX3_inspect 77 = .ok (.invokevirtual 281, 3) := by decide +kernel
theorem dX3_inspect_80 : decode cX3_inspect 80 = .ok (.invokevirtual 284, 3) := by decide +kernel
theorem dX3_inspect_83 : decode cX3_inspect 83 = .ok (.lcmp, 1) := by decide +kernel
theorem dX3_inspect_84 : decode cX3_inspect 84 = .ok (.ifCond .le 16, 3) := by decide +kernel
theorem dX3_inspect_87 : decode cX3_inspect 87 = .ok (.aload_n 0, 1) := by decide +kernel
theorem dX3_inspect_88 : decode cX3_inspect 88 = .ok (.getfield 97, 3) := by decide +kernel
theorem dX3_inspect_91 : decode cX3_inspect 91 = .ok (.iconst 1, 1) := by decide +kernel
theorem dX3_inspect_92 : decode cX3_inspect 92 = .ok (.if_icmp .eq 8, 3) := by decide +kernel
theorem dX3_inspect_95 : decode cX3_inspect 95 = .ok (.aload_n 0, 1) := by decide +kernel
theorem dX3_inspect_96 : decode cX3_inspect 96 = .ok (.iload_n 1, 1) := by decide +kernel
theorem dX3_inspect_97 : decode cX3_inspect 97 = .ok (.invokevirtual 227, 3) := by decide +kernel
theorem dX3_inspect_100 : decode cX3_inspect 100 = .ok (.iinc 1 1, 3) := by decide +kernel
theorem dX3_inspect_103 : decode cX3_inspect 103 = .ok (.goto (-86), 3) := by decide +kernel
theorem dX3_inspect_106 : decode cX3_inspect 106 = .ok (.return_, 1) := by decide +kernel
theorem dX3_countSlack_0 : decode cX3_countSlack 0 = .ok (.aload_n 0, 1) := by decide +kernel
theorem dX3_countSlack_1 : decode cX3_countSlack 1 = .ok (.getfield 55, 3) := by decide +kernel
theorem dX3_countSlack_4 : decode cX3_countSlack 4 = .ok (.iload_n 1, 1) := by decide +kernel
theorem dX3_countSlack_5 : decode cX3_countSlack 5 = .ok (.aaload, 1) := by decide +kernel
theorem dX3_countSlack_6 : decode cX3_countSlack 6 = .ok (.getfield 287, 3) := by decide +kernel
theorem dX3_countSlack_9 : decode cX3_countSlack 9 = .ok (.istore 4, 2) := by decide +kernel
theorem dX3_countSlack_11 : decode cX3_countSlack 11 = .ok (.aload_n 0, 1) := by decide +kernel
theorem dX3_countSlack_12 : decode cX3_countSlack 12 = .ok (.getfield 55, 3) := by decide +kernel
theorem dX3_countSlack_15 : decode cX3_countSlack 15 = .ok (.iload_n 1, 1) := by decide +kernel
theorem dX3_countSlack_16 : decode cX3_countSlack 16 = .ok (.aaload, 1) := by decide +kernel
theorem dX3_countSlack_17 : decode cX3_countSlack 17 = .ok (.lload_n 2, 1) := by decide +kernel
theorem dX3_countSlack_18 : decode cX3_countSlack 18 = .ok (.lconst 0, 1) := by decide +kernel
theorem dX3_countSlack_19 : decode cX3_countSlack 19 = .ok (.lcmp, 1) := by decide +kernel
theorem dX3_countSlack_20 : decode cX3_countSlack 20 = .ok (.ifCond .ne 10, 3) := by decide +kernel
theorem dX3_countSlack_23 : decode cX3_countSlack 23 = .ok (.iload 4, 2) := by decide +kernel
theorem dX3_countSlack_25 : decode cX3_countSlack 25 = .ok (.iconst 1, 1) := by decide +kernel
theorem dX3_countSlack_26 : decode cX3_countSlack 26 = .ok (.iadd, 1) := by decide +kernel
theorem dX3_countSlack_27 : decode cX3_countSlack 27 = .ok (.goto 4, 3) := by decide +kernel
theorem dX3_countSlack_30 : decode cX3_countSlack 30 = .ok (.iconst 0, 1) := by decide +kernel
theorem dX3_countSlack_31 : decode cX3_countSlack 31 = .ok (.putfield 287, 3) := by decide +kernel
theorem dX3_countSlack_34 : decode cX3_countSlack 34 = .ok (.aload_n 0, 1) := by decide +kernel
theorem dX3_countSlack_35 : decode cX3_countSlack 35 = .ok (.getfield 55, 3) := by decide +kernel
theorem dX3_countSlack_38 : decode cX3_countSlack 38 = .ok (.iload_n 1, 1) := by decide +kernel
theorem dX3_countSlack_39 : decode cX3_countSlack 39 = .ok (.aaload, 1) := by decide +kernel
theorem dX3_countSlack_40 : decode cX3_countSlack 40 = .ok (.getfield 287, 3) := by decide +kernel
theorem dX3_countSlack_43 : decode cX3_countSlack 43 = .ok (.bipush 20, 2) := by decide +kernel
theorem dX3_countSlack_45 : decode cX3_countSlack 45 = .ok (.if_icmp .ne 19, 3) := by decide +kernel
theorem dX3_countSlack_48 : decode cX3_countSlack 48 = .ok (.aload_n 0, 1) := by decide +kernel
theorem dX3_countSlack_49 : decode cX3_countSlack 49 = .ok (.getfield 49, 3) := by decide +kernel
theorem dX3_countSlack_52 : decode cX3_countSlack 52 = .ok (.aload_n 0, 1) := by decide +kernel
theorem dX3_countSlack_53 : decode cX3_countSlack 53 = .ok (.getfield 94, 3) := by decide +kernel
theorem dX3_countSlack_56 : decode cX3_countSlack 56 = .ok (.iconst 2, 1) := by decide +kernel
theorem dX3_countSlack_57 : decode cX3_countSlack 57 = .ok (.iload_n 1, 1) := by decide +kernel
theorem dX3_countSlack_58 : decode cX3_countSlack 58 = .ok (.invokevirtual 220, 3) := by decide +kernel
theorem dX3_countSlack_61 : decode cX3_countSlack 61 = .ok (.goto 29, 3) := by decide +kernel
theorem dX3_countSlack_64 : decode cX3_countSlack 64 = .ok (.lload_n 2, 1) := by decide +kernel
theorem dX3_countSlack_65 : decode cX3_countSlack 65 = .ok (.lconst 0, 1) := by decide +kernel
theorem dX3_countSlack_66 : decode cX3_countSlack 66 = .ok (.lcmp, 1) := by decide +kernel
theorem dX3_countSlack_67 : decode cX3_countSlack 67 = .ok (.ifCond .eq 23, 3) := by decide +kernel
theorem dX3_countSlack_70 : decode cX3_countSlack 70 = .ok (.iload 4, 2) := by decide +kernel
theorem dX3_countSlack_72 : decode cX3_countSlack 72 = .ok (.bipush 20, 2) := by decide +kernel
theorem dX3_countSlack_74 : decode cX3_countSlack 74 = .ok (.if_icmp .lt 16, 3) := by decide +kernel
theorem dX3_countSlack_77 : decode cX3_countSlack 77 = .ok (.aload_n 0, 1) := by decide +kernel
theorem dX3_countSlack_78 : decode cX3_countSlack 78 = .ok (.getfield 49, 3) := by decide +kernel
theorem dX3_countSlack_81 : decode cX3_countSlack 81 = .ok (.aload_n 0, 1) := by decide +kernel
theorem dX3_countSlack_82 : decode cX3_countSlack 82 = .ok (.getfield 94, 3) := by decide +kernel
theorem dX3_countSlack_85 : decode cX3_countSlack 85 = .ok (.iconst 3, 1) := by decide +kernel
theorem dX3_countSlack_86 : decode cX3_countSlack 86 = .ok (.iload_n 1, 1) := by decide +kernel
theorem dX3_countSlack_87 : decode cX3_countSlack 87 = .ok (.invokevirtual 220, 3) := by decide +kernel
theorem dX3_countSlack_90 : decode cX3_countSlack 90 = .ok (.return_, 1) := by decide +kernel
theorem dX4_init_0 : decode cX4_init 0 = .ok (.aload_n 0, 1) := by decide +kernel
theorem dX4_init_1 : decode cX4_init 1 = .ok (.invokespecial 3, 3) := by decide +kernel
theorem dX4_init_4 : decode cX4_init 4 = .ok (.return_, 1) := by decide +kernel
theorem dX4_begin_0 : decode cX4_begin 0 = .ok (.aload_n 0, 1) := by decide +kernel
theorem dX4_begin_1 : decode cX4_begin 1 = .ok (.iload_n 1, 1) := by decide +kernel
theorem dX4_begin_2 : decode cX4_begin 2 = .ok (.putfield 9, 3) := by decide +kernel
theorem dX4_begin_5 : decode cX4_begin 5 = .ok (.aload_n 0, 1) := by decide +kernel
theorem dX4_begin_6 : decode cX4_begin 6 = .ok (.iload_n 2, 1) := by decide +kernel
theorem dX4_begin_7 : decode cX4_begin 7 = .ok (.putfield 15, 3) := by decide +kernel
theorem dX4_begin_10 : decode cX4_begin 10 = .ok (.return_, 1) := by decide +kernel
theorem dX4_copyFrom_0 : decode cX4_copyFrom 0 = .ok (.aload_n 0, 1) := by decide +kernel
theorem dX4_copyFrom_1 : decode cX4_copyFrom 1 = .ok (.aload_n 1, 1) := by decide +kernel
theorem dX4_copyFrom_2 : decode cX4_copyFrom 2 = .ok (.getfield 9, 3) := by decide +kernel
theorem dX4_copyFrom_5 : decode cX4_copyFrom 5 = .ok (.putfield 9, 3) := by decide +kernel
theorem dX4_copyFrom_8 : decode cX4_copyFrom 8 = .ok (.aload_n 0, 1) := by decide +kernel
theorem dX4_copyFrom_9 : decode cX4_copyFrom 9 = .ok (.aload_n 1, 1) := by decide +kernel
theorem dX4_copyFrom_10 : decode cX4_copyFrom 10 = .ok (.getfield 15, 3) := by decide +kernel
theorem dX4_copyFrom_13 : decode cX4_copyFrom 13 = .ok (.putfield 15, 3) := by decide +kernel
theorem dX4_copyFrom_16 : decode cX4_copyFrom 16 = .ok (.return_, 1) := by decide +kernel
theorem dX4_trimAfter_0 : decode cX4_trimAfter 0 = .ok (.aload_n 0, 1) := by decide +kernel
theorem dX4_trimAfter_1 : decode cX4_trimAfter 1 = .ok (.getfield 15, 3) := by decide +kernel
theorem dX4_trimAfter_4 : decode cX4_trimAfter 4 = .ok (.i2l, 1) := by decide +kernel
theorem dX4_trimAfter_5 : decode cX4_trimAfter 5 = .ok (.aload_n 0, 1) := by decide +kernel
theorem dX4_trimAfter_6 : decode cX4_trimAfter 6 = .ok (.getfield 9, 3) := by decide +kernel
theorem dX4_trimAfter_9 : decode cX4_trimAfter 9 = .ok (.i2l, 1) := by decide +kernel
theorem dX4_trimAfter_10 : decode cX4_trimAfter 10 = .ok (.lload_n 2, 1) := by decide +kernel
theorem dX4_trimAfter_11 : decode cX4_trimAfter 11 = .ok (.lsub, 1) := by decide +kernel
theorem dX4_trimAfter_12 : decode cX4_trimAfter 12 = .ok (.lmul, 1) := by decide +kernel
theorem dX4_trimAfter_13 : decode cX4_trimAfter 13 = .ok (.ldc2_w 18, 3) := by decide +kernel
theorem dX4_trimAfter_16 : decode cX4_trimAfter 16 = .ok (.invokestatic 20, 3) := by decide +kernel
theorem dX4_trimAfter_19 : decode cX4_trimAfter 19 = .ok (.lstore 4, 2) := by decide +kernel
theorem dX4_trimAfter_21 : decode cX4_trimAfter 21 = .ok (.iload_n 1, 1) := by decide +kernel
theorem dX4_trimAfter_22 : decode cX4_trimAfter 22 = .ok (.i2l, 1) := by decide +kernel
theorem dX4_trimAfter_23 : decode cX4_trimAfter 23 = .ok (.lload 4, 2) := by decide +kernel
theorem dX4_trimAfter_25 : decode cX4_trimAfter 25 = .ok (.ladd, 1) := by decide +kernel
theorem dX4_trimAfter_26 : decode cX4_trimAfter 26 = .ok (.ldc2_w 26, 3) := by decide +kernel
theorem dX4_trimAfter_29 : decode cX4_trimAfter 29 = .ok (.ldc2_w 28, 3) := by decide +kernel
theorem dX4_trimAfter_32 : decode cX4_trimAfter 32 = .ok (.invokestatic 30, 3) := by decide +kernel
theorem dX4_trimAfter_35 : decode cX4_trimAfter 35 = .ok (.l2i, 1) := by decide +kernel
theorem dX4_trimAfter_36 : decode cX4_trimAfter 36 = .ok (.ireturn, 1) := by decide +kernel
theorem dX5_init_0 : decode cX5_init 0 = .ok (.aload_n 0, 1) := by decide +kernel
theorem dX5_init_1 : decode cX5_init 1 = .ok (.invokespecial 3, 3) := by decide +kernel
theorem dX5_init_4 : decode cX5_init 4 = .ok (.aload_n 0, 1) := by decide +kernel
theorem dX5_init_5 : decode cX5_init 5 = .ok (.sipush 512, 3) := by decide +kernel
theorem dX5_init_8 : decode cX5_init 8 = .ok (.newarray .long, 2) := by decide +kernel
theorem dX5_init_10 : decode cX5_init 10 = .ok (.putfield 9, 3) := by decide +kernel
theorem dX5_init_13 : decode cX5_init 13 = .ok (.return_, 1) := by decide +kernel
theorem dX5_clearAll_0 : decode cX5_clearAll 0 = .ok (.aload_n 0, 1) := by decide +kernel
theorem dX5_clearAll_1 : decode cX5_clearAll 1 = .ok (.iconst 0, 1) := by decide +kernel
theorem dX5_clearAll_2 : decode cX5_clearAll 2 = .ok (.putfield 15, 3) := by decide +kernel
theorem dX5_clearAll_5 : decode cX5_clearAll 5 = .ok (.return_, 1) := by decide +kernel
theorem dX5_copyFrom_0 : decode cX5_copyFrom 0 = .ok (.aload_n 1, 1) := by decide +kernel
theorem dX5_copyFrom_1 : decode cX5_copyFrom 1 = .ok (.getfield 9, 3) := by decide +kernel
theorem dX5_copyFrom_4 : decode cX5_copyFrom 4 = .ok (.iconst 0, 1) := by decide +kernel
theorem dX5_copyFrom_5 : decode cX5_copyFrom 5 = .ok (.aload_n 0, 1) := by decide +kernel
theorem dX5_copyFrom_6 : decode cX5_copyFrom 6 = .ok (.getfield 9, 3) := by decide +kernel
theorem dX5_copyFrom_9 : decode cX5_copyFrom 9 = .ok (.iconst 0, 1) := by decide +kernel
theorem dX5_copyFrom_10 : decode cX5_copyFrom 10 = .ok (.aload_n 1, 1) := by decide +kernel
theorem dX5_copyFrom_11 : decode cX5_copyFrom 11 = .ok (.getfield 15, 3) := by decide +kernel
theorem dX5_copyFrom_14 : decode cX5_copyFrom 14 = .ok (.invokestatic 19, 3) := by decide +kernel
theorem dX5_copyFrom_17 : decode cX5_copyFrom 17 = .ok (.aload_n 0, 1) := by decide +kernel
theorem dX5_copyFrom_18 : decode cX5_copyFrom 18 = .ok (.aload_n 1, 1) := by decide +kernel
theorem dX5_copyFrom_19 : decode cX5_copyFrom 19 = .ok (.getfield 15, 3) := by decide +kernel
theorem dX5_copyFrom_22 : decode cX5_copyFrom 22 = .ok (.putfield 15, 3) := by decide +kernel
theorem dX5_copyFrom_25 : decode cX5_copyFrom 25 = .ok (.return_, 1) := by decide +kernel
theorem dX5_add_0 : decode cX5_add 0 = .ok (.aload_n 0, 1) := by decide +kernel
theorem dX5_add_1 : decode cX5_add 1 = .ok (.getfield 15, 3) := by decide +kernel
theorem dX5_add_4 : decode cX5_add 4 = .ok (.aload_n 0, 1) := by decide +kernel
theorem dX5_add_5 : decode cX5_add 5 = .ok (.getfield 9, 3) := by decide +kernel
theorem dX5_add_8 : decode cX5_add 8 = .ok (.arraylength, 1) := by decide +kernel
theorem dX5_add_9 : decode cX5_add 9 = .ok (.if_icmp .ge 23, 3) := by decide +kernel
theorem dX5_add_12 : decode cX5_add 12 = .ok (.aload_n 0, 1) := by decide +kernel
theorem dX5_add_13 : decode cX5_add 13 = .ok (.getfield 9, 3) := by decide +kernel
theorem dX5_add_16 : decode cX5_add 16 = .ok (.aload_n 0, 1) := by decide +kernel
theorem dX5_add_17 : decode cX5_add 17 = .ok (.getfield 15, 3) := by decide +kernel
theorem dX5_add_20 : decode cX5_add 20 = .ok (.lload_n 1, 1) := by decide +kernel
theorem dX5_add_21 : decode cX5_add 21 = .ok (.lastore, 1) := by decide +kernel
theorem dX5_add_22 : decode cX5_add 22 = .ok (.aload_n 0, 1) := by decide +kernel
theorem dX5_add_23 : decode cX5_add 23 = .ok (.dup, 1) := by decide +kernel
theorem dX5_add_24 : decode cX5_add 24 = .ok (.getfield 15, 3) := by decide +kernel
theorem dX5_add_27 : decode cX5_add 27 = .ok (.iconst 1, 1) := by decide +kernel
theorem dX5_add_28 : decode cX5_add 28 = .ok (.iadd, 1) := by decide +kernel
theorem dX5_add_29 : decode cX5_add 29 = .ok (.putfield 15, 3) := by decide +kernel
theorem dX5_add_32 : decode cX5_add 32 = .ok (.return_, 1) := by decide +kernel
theorem dX5_dropUpTo_0 : decode cX5_dropUpTo 0 = .ok (.iconst 0, 1) := by decide +kernel
theorem dX5_dropUpTo_1 : decode cX5_dropUpTo 1 = .ok (.istore_n 3, 1) := by decide +kernel
theorem dX5_dropUpTo_2 : decode cX5_dropUpTo 2 = .ok (.iload_n 3, 1) := by decide +kernel
theorem dX5_dropUpTo_3 : decode cX5_dropUpTo 3 = .ok (.aload_n 0, 1) := by decide +kernel
theorem dX5_dropUpTo_4 : decode cX5_dropUpTo 4 = .ok (.getfield 15, 3) := by decide +kernel
theorem dX5_dropUpTo_7 : decode cX5_dropUpTo 7 = .ok (.if_icmp .ge 20, 3) := by decide +kernel
theorem dX5_dropUpTo_10 : decode cX5_dropUpTo 10 = .ok (.aload_n 0, 1) := by decide +kernel
theorem dX5_dropUpTo_11 : decode cX5_dropUpTo 11 = .ok (.getfield 9, 3) := by decide +kernel
theorem dX5_dropUpTo_14 : decode cX5_dropUpTo 14 = .ok (.iload_n 3, 1) := by decide +kernel
theorem dX5_dropUpTo_15 : decode cX5_dropUpTo 15 = .ok (.laload, 1) := by decide +kernel
theorem dX5_dropUpTo_16 : decode cX5_dropUpTo 16 = .ok (.lload_n 1, 1) := by decide +kernel
theorem dX5_dropUpTo_17 : decode cX5_dropUpTo 17 = .ok (.lcmp, 1) := by decide +kernel
theorem dX5_dropUpTo_18 : decode cX5_dropUpTo 18 = .ok (.ifCond .gt 9, 3) := by decide +kernel
theorem dX5_dropUpTo_21 : decode cX5_dropUpTo 21 = .ok (.iinc 3 1, 3) := by decide +kernel
theorem dX5_dropUpTo_24 : decode cX5_dropUpTo 24 = .ok (.goto (-22), 3) := by decide +kernel
theorem dX5_dropUpTo_27 : decode cX5_dropUpTo 27 = .ok (.aload_n 0, 1) := by decide +kernel
theorem dX5_dropUpTo_28 : decode cX5_dropUpTo 28 = .ok (.dup, 1) := by decide +kernel
theorem dX5_dropUpTo_29 : decode cX5_dropUpTo 29 = .ok (.getfield 15, 3) := by decide +kernel
theorem dX5_dropUpTo_32 : decode cX5_dropUpTo 32 = .ok (.iload_n 3, 1) := by decide +kernel
theorem dX5_dropUpTo_33 : decode cX5_dropUpTo 33 = .ok (.isub, 1) := by decide +kernel
theorem dX5_dropUpTo_34 : decode cX5_dropUpTo 34 = .ok (.putfield 15, 3) := by decide +kernel
theorem dX5_dropUpTo_37 : decode cX5_dropUpTo 37 = .ok (.aload_n 0, 1) := by decide +kernel
theorem dX5_dropUpTo_38 : decode cX5_dropUpTo 38 = .ok (.getfield 9, 3) := by decide +kernel
theorem dX5_dropUpTo_41 : decode cX5_dropUpTo 41 = .ok (.iload_n 3, 1) := by decide +kernel
theorem dX5_dropUpTo_42 : decode cX5_dropUpTo 42 = .ok (.aload_n 0, 1) := by decide +kernel
theorem dX5_dropUpTo_43 : decode cX5_dropUpTo 43 = .ok (.getfield 9, 3) := by decide +kernel
theorem dX5_dropUpTo_46 : decode cX5_dropUpTo 46 = .ok (.iconst 0, 1) := by decide +kernel
theorem dX5_dropUpTo_47 : decode cX5_dropUpTo 47 = .ok (.aload_n 0, 1) := by decide +kernel
theorem dX5_dropUpTo_48 : decode cX5_dropUpTo 48 = .ok (.getfield 15, 3) := by decide +kernel
theorem dX5_dropUpTo_51 : decode cX5_dropUpTo 51 = .ok (.invokestatic 19, 3) := by decide +kernel
theorem dX5_dropUpTo_54 : decode cX5_dropUpTo 54 = .ok (.return_, 1) := by decide +kernel
theorem dX5_countBetween_0 : decode cX5_countBetween 0 = .ok (.iconst 0, 1) := by decide +kernel
theorem dX5_countBetween_1 : decode cX5_countBetween 1 = .ok (.istore 5, 2) := by decide +kernel
theorem dX5_countBetween_3 : decode cX5_countBetween 3 = .ok (.iconst 0, 1) := by decide +kernel
theorem dX5_countBetween_4 : decode cX5_countBetween 4 = .ok (.istore 6, 2) := by decide +kernel
theorem dX5_countBetween_6 : decode cX5_countBetween 6 = .ok (.iload 6, 2) := by decide +kernel
theorem dX5_countBetween_8 : decode cX5_countBetween 8 = .ok (.aload_n 0, 1) := by decide +kernel
theorem dX5_countBetween_9 : decode cX5_countBetween 9 = .ok (.getfield 15, 3) := by decide +kernel
theorem dX5_countBetween_12 : decode cX5_countBetween 12 = .ok (.if_icmp .ge 36, 3) := by decide +kernel
theorem dX5_countBetween_15 : decode cX5_countBetween 15 = .ok (.aload_n 0, 1) := by decide +kernel
theorem dX5_countBetween_16 : decode cX5_countBetween 16 = .ok (.getfield 9, 3) := by decide +kernel
theorem dX5_countBetween_19 : decode cX5_countBetween 19 = .ok (.iload 6, 2) := by decide +kernel
theorem dX5_countBetween_21 : decode cX5_countBetween 21 = .ok (.laload, 1) := by decide +kernel
theorem dX5_countBetween_22 : decode cX5_countBetween 22 = .ok (.lload_n 1, 1) := by decide +kernel
theorem dX5_countBetween_23 : decode cX5_countBetween 23 = .ok (.lcmp, 1) := by decide +kernel
theorem dX5_countBetween_24 : decode cX5_countBetween 24 = .ok (.ifCond .le 18, 3) := by decide +kernel
theorem dX5_countBetween_27 : decode cX5_countBetween 27 = .ok (.aload_n 0, 1) := by decide +kernel
theorem dX5_countBetween_28 : decode cX5_countBetween 28 = .ok (.getfield 9, 3) := by decide +kernel
theorem dX5_countBetween_31 : decode cX5_countBetween 31 = .ok (.iload 6, 2) := by decide +kernel
theorem dX5_countBetween_33 : decode cX5_countBetween 33 = .ok (.laload, 1) := by decide +kernel
theorem dX5_countBetween_34 : decode cX5_countBetween 34 = .ok (.lload_n 3, 1) := by decide +kernel
theorem dX5_countBetween_35 : decode cX5_countBetween 35 = .ok (.lcmp, 1) := by decide +kernel
theorem dX5_countBetween_36 : decode cX5_countBetween 36 = .ok (.ifCond .gt 6, 3) := by decide +kernel
theorem dX5_countBetween_39 : decode cX5_countBetween 39 = .ok (.iinc 5 1, 3) := by decide +kernel
theorem dX5_countBetween_42 : decode cX5_countBetween 42 = .ok (.iinc 6 1, 3) := by decide +kernel
theorem dX5_countBetween_45 : decode cX5_countBetween 45 = .ok (.goto (-39), 3) := by decide +kernel
theorem dX5_countBetween_48 : decode cX5_countBetween 48 = .ok (.iload 5, 2) := by decide +kernel
theorem dX5_countBetween_50 : decode cX5_countBetween 50 = .ok (.ireturn, 1) := by decide +kernel
theorem dX6_init_0 : decode cX6_init 0 = .ok (.aload_n 0, 1) := by decide +kernel
theorem dX6_init_1 : decode cX6_init 1 = .ok (.invokespecial 3, 3) := by decide +kernel
theorem dX6_init_4 : decode cX6_init 4 = .ok (.return_, 1) := by decide +kernel
theorem dX6_begin_0 : decode cX6_begin 0 = .ok (.aload_n 0, 1) := by decide +kernel
theorem dX6_begin_1 : decode cX6_begin 1 = .ok (.lconst 0, 1) := by decide +kernel
theorem dX6_begin_2 : decode cX6_begin 2 = .ok (.putfield 9, 3) := by decide +kernel
theorem dX6_begin_5 : decode cX6_begin 5 = .ok (.aload_n 0, 1) := by decide +kernel
theorem dX6_begin_6 : decode cX6_begin 6 = .ok (.ldc 15, 2) := by decide +kernel
theorem dX6_begin_8 : decode cX6_begin 8 = .ok (.putfield 16, 3) := by decide +kernel
theorem dX6_begin_11 : decode cX6_begin 11 = .ok (.aload_n 0, 1) := by decide +kernel
theorem dX6_begin_12 : decode cX6_begin 12 = .ok (.iconst 0, 1) := by decide +kernel
theorem dX6_begin_13 : decode cX6_begin 13 = .ok (.putfield 20, 3) := by decide +kernel
theorem dX6_begin_16 : decode cX6_begin 16 = .ok (.return_, 1) := by decide +kernel
theorem dX6_copyFrom_0 : decode cX6_copyFrom 0 = .ok (.aload_n 0, 1) := by decide +kernel
theorem dX6_copyFrom_1 : decode cX6_copyFrom 1 = .ok (.aload_n 1, 1) := by decide +kernel
theorem dX6_copyFrom_2 : decode cX6_copyFrom 2 = .ok (.getfield 9, 3) := by decide +kernel
theorem dX6_copyFrom_5 : decode cX6_copyFrom 5 = .ok (.putfield 9, 3) := by decide +kernel
theorem dX6_copyFrom_8 : decode cX6_copyFrom 8 = .ok (.aload_n 0, 1) := by decide +kernel
theorem dX6_copyFrom_9 : decode cX6_copyFrom 9 = .ok (.aload_n 1, 1) := by decide +kernel
theorem dX6_copyFrom_10 : decode cX6_copyFrom 10 = .ok (.getfield 16, 3) := by decide +kernel
theorem dX6_copyFrom_13 : decode cX6_copyFrom 13 = .ok (.putfield 16, 3) := by decide +kernel
theorem dX6_copyFrom_16 : decode cX6_copyFrom 16 = .ok (.aload_n 0, 1) := by decide +kernel
theorem dX6_copyFrom_17 : decode cX6_copyFrom 17 = .ok (.aload_n 1, 1) := by decide +kernel
theorem dX6_copyFrom_18 : decode cX6_copyFrom 18 = .ok (.getfield 20, 3) := by decide +kernel
theorem dX6_copyFrom_21 : decode cX6_copyFrom 21 = .ok (.putfield 20, 3) := by decide +kernel
theorem dX6_copyFrom_24 : decode cX6_copyFrom 24 = .ok (.return_, 1) := by decide +kernel
theorem dX6_takes_0 : decode cX6_takes 0 = .ok (.aload_n 0, 1) := by decide +kernel
theorem dX6_takes_1 : decode cX6_takes 1 = .ok (.dup, 1) := by decide +kernel
theorem dX6_takes_2 : decode cX6_takes 2 = .ok (.getfield 9, 3) := by decide +kernel
theorem dX6_takes_5 : decode cX6_takes 5 = .ok (.lload_n 1, 1) := by decide +kernel
theorem dX6_takes_6 : decode cX6_takes 6 = .ok (.ladd, 1) := by decide +kernel
theorem dX6_takes_7 : decode cX6_takes 7 = .ok (.putfield 9, 3) := by decide +kernel
theorem dX6_takes_10 : decode cX6_takes 10 = .ok (.aload_n 0, 1) := by decide +kernel
theorem dX6_takes_11 : decode cX6_takes 11 = .ok (.getfield 9, 3) := by decide +kernel
theorem dX6_takes_14 : decode cX6_takes 14 = .ok (.aload_n 0, 1) := by decide +kernel
theorem dX6_takes_15 : decode cX6_takes 15 = .ok (.getfield 16, 3) := by decide +kernel
theorem dX6_takes_18 : decode cX6_takes 18 = .ok (.i2l, 1) := by decide +kernel
theorem dX6_takes_19 : decode cX6_takes 19 = .ok (.lcmp, 1) := by decide +kernel
theorem dX6_takes_20 : decode cX6_takes 20 = .ok (.ifCond .ge 5, 3) := by decide +kernel
theorem dX6_takes_23 : decode cX6_takes 23 = .ok (.iconst 0, 1) := by decide +kernel
theorem dX6_takes_24 : decode cX6_takes 24 = .ok (.ireturn, 1) := by decide +kernel
theorem dX6_takes_25 : decode cX6_takes 25 = .ok (.aload_n 0, 1) := by decide +kernel
theorem dX6_takes_26 : decode cX6_takes 26 = .ok (.dup, 1) := by decide +kernel
theorem dX6_takes_27 : decode cX6_takes 27 = .ok (.getfield 9, 3) := by decide +kernel
theorem dX6_takes_30 : decode cX6_takes 30 = .ok (.aload_n 0, 1) := by decide +kernel
theorem dX6_takes_31 : decode cX6_takes 31 = .ok (.getfield 16, 3) := by decide +kernel
theorem dX6_takes_34 : decode cX6_takes 34 = .ok (.i2l, 1) := by decide +kernel
theorem dX6_takes_35 : decode cX6_takes 35 = .ok (.lsub, 1) := by decide +kernel
theorem dX6_takes_36 : decode cX6_takes 36 = .ok (.putfield 9, 3) := by decide +kernel
theorem dX6_takes_39 : decode cX6_takes 39 = .ok (.aload_n 0, 1) := by decide +kernel
theorem dX6_takes_40 : decode cX6_takes 40 = .ok (.dup, 1) := by decide +kernel
theorem dX6_takes_41 : decode cX6_takes 41 = .ok (.getfield 20, 3) := by decide +kernel
theorem dX6_takes_44 : decode cX6_takes 44 = .ok (.iconst 1, 1) := by decide +kernel
theorem dX6_takes_45 : decode cX6_takes 45 = .ok (.iadd, 1) := by decide +kernel
theorem dX6_takes_46 : decode cX6_takes 46 = .ok (.putfield 20, 3) := by decide +kernel
theorem dX6_takes_49 : decode cX6_takes 49 = .ok (.iconst 1, 1) := by decide +kernel
theorem dX6_takes_50 : decode cX6_takes 50 = .ok (.ireturn, 1) := by decide +kernel
theorem dX7_init_0 : decode cX7_init 0 = .ok (.aload_n 0, 1) := by decide +kernel
theorem dX7_init_1 : decode cX7_init 1 = .ok (.invokespecial 1, 3) := by decide +kernel
theorem dX7_init_4 : decode cX7_init 4 = .ok (.return_, 1) := by decide +kernel
theorem dX7_begin_0 : decode cX7_begin 0 = .ok (.aload_n 0, 1) := by decide +kernel
theorem dX7_begin_1 : decode cX7_begin 1 = .ok (.lconst 0, 1) := by decide +kernel
theorem dX7_begin_2 : decode cX7_begin 2 = .ok (.putfield 7, 3) := by decide +kernel
theorem dX7_begin_5 : decode cX7_begin 5 = .ok (.aload_n 0, 1) := by decide +kernel
theorem dX7_begin_6 : decode cX7_begin 6 = .ok (.iconst 0, 1) := by decide +kernel
theorem dX7_begin_7 : decode cX7_begin 7 = .ok (.putfield 13, 3) := by decide +kernel
theorem dX7_begin_10 : decode cX7_begin 10 = .ok (.aload_n 0, 1) := by decide +kernel
theorem dX7_begin_11 : decode cX7_begin 11 = .ok (.iconst 0, 1) := by decide +kernel
theorem dX7_begin_12 : decode cX7_begin 12 = .ok (.putfield 17, 3) := by decide +kernel
theorem dX7_begin_15 : decode cX7_begin 15 = .ok (.return_, 1) := by decide +kernel
theorem dX7_copyFrom_0 : decode cX7_copyFrom 0 = .ok (.aload_n 0, 1) := by decide +kernel
theorem dX7_copyFrom_1 : decode cX7_copyFrom 1 = .ok (.aload_n 1, 1) := by decide +kernel
theorem dX7_copyFrom_2 : decode cX7_copyFrom 2 = .ok (.getfield 7, 3) := by decide +kernel
theorem dX7_copyFrom_5 : decode cX7_copyFrom 5 = .ok (.putfield 7, 3) := by decide +kernel
theorem dX7_copyFrom_8 : decode cX7_copyFrom 8 = .ok (.aload_n 0, 1) := by decide +kernel
theorem dX7_copyFrom_9 : decode cX7_copyFrom 9 = .ok (.aload_n 1, 1) := by decide +kernel
theorem dX7_copyFrom_10 : decode cX7_copyFrom 10 = .ok (.getfield 13, 3) := by decide +kernel
theorem dX7_copyFrom_13 : decode cX7_copyFrom 13 = .ok (.putfield 13, 3) := by decide +kernel
theorem dX7_copyFrom_16 : decode cX7_copyFrom 16 = .ok (.aload_n 0, 1) := by decide +kernel
theorem dX7_copyFrom_17 : decode cX7_copyFrom 17 = .ok (.aload_n 1, 1) := by decide +kernel
theorem dX7_copyFrom_18 : decode cX7_copyFrom 18 = .ok (.getfield 17, 3) := by decide +kernel
theorem dX7_copyFrom_21 : decode cX7_copyFrom 21 = .ok (.putfield 17, 3) := by decide +kernel
theorem dX7_copyFrom_24 : decode cX7_copyFrom 24 = .ok (.return_, 1) := by decide +kernel
theorem dX8_init_0 : decode cX8_init 0 = .ok (.aload_n 0, 1) := by decide +kernel
theorem dX8_init_1 : decode cX8_init 1 = .ok (.invokespecial 3, 3) := by decide +kernel
theorem dX8_init_4 : decode cX8_init 4 = .ok (.aload_n 0, 1) := by decide +kernel
theorem dX8_init_5 : decode cX8_init 5 = .ok (.new 9, 3) := by decide +kernel
theorem dX8_init_8 : decode cX8_init 8 = .ok (.dup, 1) := by decide +kernel
theorem dX8_init_9 : decode cX8_init 9 = .ok (.invokespecial 11, 3) := by decide +kernel
theorem dX8_init_12 : decode cX8_init 12 = .ok (.putfield 12, 3) := by decide +kernel
theorem dX8_init_15 : decode cX8_init 15 = .ok (.aload_n 0, 1) := by decide +kernel
theorem dX8_init_16 : decode cX8_init 16 = .ok (.new 18, 3) := by decide +kernel
theorem dX8_init_19 : decode cX8_init 19 = .ok (.dup, 1) := by decide +kernel
theorem dX8_init_20 : decode cX8_init 20 = .ok (.invokespecial 20, 3) := by decide +kernel
theorem dX8_init_23 : decode cX8_init 23 = .ok (.putfield 21, 3) := by decide +kernel
theorem dX8_init_26 : decode cX8_init 26 = .ok (.return_, 1) := by decide +kernel
theorem dX8_begin_0 : decode cX8_begin 0 = .ok (.aload_n 0, 1) := by decide +kernel
theorem dX8_begin_1 : decode cX8_begin 1 = .ok (.iload_n 1, 1) := by decide +kernel
theorem dX8_begin_2 : decode cX8_begin 2 = .ok (.putfield 25, 3) := by decide +kernel
theorem dX8_begin_5 : decode cX8_begin 5 = .ok (.aload_n 0, 1) := by decide +kernel
theorem dX8_begin_6 : decode cX8_begin 6 = .ok (.iconst 0, 1) := by decide +kernel
theorem dX8_begin_7 : decode cX8_begin 7 = .ok (.putfield 29, 3) := by decide +kernel
theorem dX8_begin_10 : decode cX8_begin 10 = .ok (.aload_n 0, 1) := by decide +kernel
theorem dX8_begin_11 : decode cX8_begin 11 = .ok (.iload_n 1, 1) := by decide +kernel
theorem dX8_begin_12 : decode cX8_begin 12 = .ok (.i2l, 1) := by decide +kernel
theorem dX8_begin_13 : decode cX8_begin 13 = .ok (.putfield 32, 3) := by decide +kernel
theorem dX8_begin_16 : decode cX8_begin 16 = .ok (.aload_n 0, 1) := by decide +kernel
theorem dX8_begin_17 : decode cX8_begin 17 = .ok (.lconst 0, 1) := by decide +kernel
theorem dX8_begin_18 : decode cX8_begin 18 = .ok (.putfield 36, 3) := by decide +kernel
theorem dX8_begin_21 : decode cX8_begin 21 = .ok (.aload_n 0, 1) := by decide +kernel
theorem dX8_begin_22 : decode cX8_begin 22 = .ok (.iconst 0, 1) := by decide +kernel
theorem dX8_begin_23 : decode cX8_begin 23 = .ok (.putfield 39, 3) := by decide +kernel
theorem dX8_begin_26 : decode cX8_begin 26 = .ok (.return_, 1) := by decide +kernel
theorem dX8_copyFrom_0 : decode cX8_copyFrom 0 = .ok (.aload_n 0, 1) := by decide +kernel
theorem dX8_copyFrom_1 : decode cX8_copyFrom 1 = .ok (.getfield 12, 3) := by decide +kernel
theorem dX8_copyFrom_4 : decode cX8_copyFrom 4 = .ok (.aload_n 1, 1) := by decide +kernel
theorem dX8_copyFrom_5 : decode cX8_copyFrom 5 = .ok (.getfield 12, 3) := by decide +kernel
theorem dX8_copyFrom_8 : decode cX8_copyFrom 8 = .ok (.invokevirtual 42, 3) := by decide +kernel
theorem dX8_copyFrom_11 : decode cX8_copyFrom 11 = .ok (.aload_n 0, 1) := by decide +kernel
theorem dX8_copyFrom_12 : decode cX8_copyFrom 12 = .ok (.getfield 21, 3) := by decide +kernel
theorem dX8_copyFrom_15 : decode cX8_copyFrom 15 = .ok (.aload_n 1, 1) := by decide +kernel
theorem dX8_copyFrom_16 : decode cX8_copyFrom 16 = .ok (.getfield 21, 3) := by decide +kernel
theorem dX8_copyFrom_19 : decode cX8_copyFrom 19 = .ok (.invokevirtual 46, 3) := by decide +kernel
theorem dX8_copyFrom_22 : decode cX8_copyFrom 22 = .ok (.aload_n 0, 1) := by decide +kernel
theorem dX8_copyFrom_23 : decode cX8_copyFrom 23 = .ok (.aload_n 1, 1) := by decide +kernel
theorem dX8_copyFrom_24 : decode cX8_copyFrom 24 = .ok (.getfield 25, 3) := by decide +kernel
theorem dX8_copyFrom_27 : decode cX8_copyFrom 27 = .ok (.putfield 25, 3) := by decide +kernel
theorem dX8_copyFrom_30 : decode cX8_copyFrom 30 = .ok (.aload_n 0, 1) := by decide +kernel
theorem dX8_copyFrom_31 : decode cX8_copyFrom 31 = .ok (.aload_n 1, 1) := by decide +kernel
theorem dX8_copyFrom_32 : decode cX8_copyFrom 32 = .ok (.getfield 29, 3) := by decide +kernel
theorem dX8_copyFrom_35 : decode cX8_copyFrom 35 = .ok (.putfield 29, 3) := by decide +kernel
theorem dX8_copyFrom_38 : decode cX8_copyFrom 38 = .ok (.aload_n 0, 1) := by decide +kernel
theorem dX8_copyFrom_39 : decode cX8_copyFrom 39 = .ok (.aload_n 1, 1) := by decide +kernel
theorem dX8_copyFrom_40 : decode cX8_copyFrom 40 = .ok (.getfield 32, 3) := by decide +kernel
theorem dX8_copyFrom_43 : decode cX8_copyFrom 43 = .ok (.putfield 32, 3) := by decide +kernel
theorem dX8_copyFrom_46 : decode cX8_copyFrom 46 = .ok (.aload_n 0, 1) := by decide +kernel
theorem dX8_copyFrom_47 : decode cX8_copyFrom 47 = .ok (.aload_n 1, 1) := by decide +kernel
theorem dX8_copyFrom_48 : decode cX8_copyFrom 48 = .ok (.getfield 36, 3) := by decide +kernel
theorem dX8_copyFrom_51 : decode cX8_copyFrom 51 = .ok (.putfield 36, 3) := by decide +kernel
theorem dX8_copyFrom_54 : decode cX8_copyFrom 54 = .ok (.aload_n 0, 1) := by decide +kernel
theorem dX8_copyFrom_55 : decode cX8_copyFrom 55 = .ok (.aload_n 1, 1) := by decide +kernel
theorem dX8_copyFrom_56 : decode cX8_copyFrom 56 = .ok (.getfield 39, 3) := by decide +kernel
theorem dX8_copyFrom_59 : decode cX8_copyFrom 59 = .ok (.putfield 39, 3) := by decide +kernel
theorem dX8_copyFrom_62 : decode cX8_copyFrom 62 = .ok (.return_, 1) := by decide +kernel
theorem dX8_equip_0 : decode cX8_equip 0 = .ok (.aload_n 0, 1) := by decide +kernel
theorem dX8_equip_1 : decode cX8_equip 1 = .ok (.getfield 29, 3) := by decide +kernel
theorem dX8_equip_4 : decode cX8_equip 4 = .ok (.ifCond .ne 7, 3) := by decide +kernel
theorem dX8_equip_7 : decode cX8_equip 7 = .ok (.iconst 0, 1) := by decide +kernel
theorem dX8_equip_8 : decode cX8_equip 8 = .ok (.goto 4, 3) := by decide +kernel
theorem dX8_equip_11 : decode cX8_equip 11 = .ok (.iconst 1, 1) := by decide +kernel
theorem dX8_equip_12 : decode cX8_equip 12 = .ok (.istore_n 2, 1) := by decide +kernel
theorem dX8_equip_13 : decode cX8_equip 13 = .ok (.aload_n 0, 1) := by decide +kernel
theorem dX8_equip_14 : decode cX8_equip 14 = .ok (.iload_n 1, 1) := by decide +kernel
theorem dX8_equip_15 : decode cX8_equip 15 = .ok (.putfield 29, 3) := by decide +kernel
theorem dX8_equip_18 : decode cX8_equip 18 = .ok (.aload_n 0, 1) := by decide +kernel
theorem dX8_equip_19 : decode cX8_equip 19 = .ok (.aload_n 0, 1) := by decide +kernel
theorem dX8_equip_20 : decode cX8_equip 20 = .ok (.invokevirtual 49, 3) := by decide +kernel
theorem dX8_equip_23 : decode cX8_equip 23 = .ok (.putfield 32, 3) := by decide +kernel
theorem dX8_equip_26 : decode cX8_equip 26 = .ok (.iload_n 2, 1) := by decide +kernel
theorem dX8_equip_27 : decode cX8_equip 27 = .ok (.ireturn, 1) := by decide +kernel
theorem dX8_threadAnew_0 : decode cX8_threadAnew 0 = .ok (.aload_n 0, 1) := by decide +kernel
theorem dX8_threadAnew_1 : decode cX8_threadAnew 1 = .ok (.getfield 12, 3) := by decide +kernel
theorem dX8_threadAnew_4 : decode cX8_threadAnew 4 = .ok (.invokevirtual 53, 3) := by decide +kernel
theorem dX8_threadAnew_7 : decode cX8_threadAnew 7 = .ok (.aload_n 0, 1) := by decide +kernel
theorem dX8_threadAnew_8 : decode cX8_threadAnew 8 = .ok (.aload_n 0, 1) := by decide +kernel
theorem dX8_threadAnew_9 : decode cX8_threadAnew 9 = .ok (.invokevirtual 49, 3) := by decide +kernel
theorem dX8_threadAnew_12 : decode cX8_threadAnew 12 = .ok (.putfield 32, 3) := by decide +kernel
theorem dX8_threadAnew_15 : decode cX8_threadAnew 15 = .ok (.aload_n 0, 1) := by decide +kernel
theorem dX8_threadAnew_16 : decode cX8_threadAnew 16 = .ok (.iconst 0, 1) := by decide +kernel
theorem dX8_threadAnew_17 : decode cX8_threadAnew 17 = .ok (.putfield 39, 3) := by decide +kernel
theorem dX8_threadAnew_20 : decode cX8_threadAnew 20 = .ok (.return_, 1) := by decide +kernel
theorem dX8_length_0 : decode cX8_length 0 = .ok (.aload_n 0, 1) := by decide +kernel
theorem dX8_length_1 : decode cX8_length 1 = .ok (.getfield 29, 3) := by decide +kernel
theorem dX8_length_4 : decode cX8_length 4 = .ok (.iconst 1, 1) := by decide +kernel
theorem dX8_length_5 : decode cX8_length 5 = .ok (.if_icmp .ne 24, 3) := by decide +kernel
theorem dX8_length_8 : decode cX8_length 8 = .ok (.aload_n 0, 1) := by decide +kernel
theorem dX8_length_9 : decode cX8_length 9 = .ok (.getfield 25, 3) := by decide +kernel
theorem dX8_length_12 : decode cX8_length 12 = .ok (.i2l, 1) := by decide +kernel
theorem dX8_length_13 : decode cX8_length 13 = .ok (.ldc2_w 56, 3) := by decide +kernel
theorem dX8_length_16 : decode cX8_length 16 = .ok (.aload_n 0, 1) := by decide +kernel
theorem dX8_length_17 : decode cX8_length 17 = .ok (.getfield 12, 3) := by decide +kernel
theorem dX8_length_20 : decode cX8_length 20 = .ok (.getfield 58, 3) := by decide +kernel
theorem dX8_length_23 : decode cX8_length 23 = .ok (.i2l, 1) := by decide +kernel
theorem dX8_length_24 : decode cX8_length 24 = .ok (.lmul, 1) := by decide +kernel
theorem dX8_length_25 : decode cX8_length 25 = .ok (.ladd, 1) := by decide +kernel
theorem dX8_length_26 : decode cX8_length 26 = .ok (.goto 8, 3) := by decide +kernel
theorem dX8_length_29 : decode cX8_length 29 = .ok (.aload_n 0, 1) := by decide +kernel
theorem dX8_length_30 : decode cX8_length 30 = .ok (.getfield 25, 3) := by decide +kernel
theorem dX8_length_33 : decode cX8_length 33 = .ok (.i2l, 1) := by decide +kernel
theorem dX8_length_34 : decode cX8_length 34 = .ok (.lreturn, 1) := by decide +kernel
theorem dX8_tensionAt_0 : decode cX8_tensionAt 0 = .ok (.aload_n 0, 1) := by decide +kernel
theorem dX8_tensionAt_1 : decode cX8_tensionAt 1 = .ok (.invokevirtual 49, 3) := by decide +kernel
theorem dX8_tensionAt_4 : decode cX8_tensionAt 4 = .ok (.lstore_n 2, 1) := by decide +kernel
theorem dX8_tensionAt_5 : decode cX8_tensionAt 5 = .ok (.lload_n 2, 1) := by decide +kernel
