theorem dX0_init_0 : decode cX0_init 0 = .ok (.aload_n 0, 1) := by decide +kernel
theorem dX0_init_1 : decode cX0_init 1 = .ok (.invokespecial 3, 3) := by decide +kernel
theorem dX0_init_4 : decode cX0_init 4 = .ok (.aload_n 0, 1) := by decide +kernel
theorem dX0_init_5 : decode cX0_init 5 = .ok (.iload_n 1, 1) := by decide +kernel
theorem dX0_init_6 : decode cX0_init 6 = .ok (.putfield 9, 3) := by decide +kernel
theorem dX0_init_9 : decode cX0_init 9 = .ok (.aload_n 0, 1) := by decide +kernel
theorem dX0_init_10 : decode cX0_init 10 = .ok (.iload_n 2, 1) := by decide +kernel
theorem dX0_init_11 : decode cX0_init 11 = .ok (.putfield 15, 3) := by decide +kernel
theorem dX0_init_14 : decode cX0_init 14 = .ok (.aload_n 0, 1) := by decide +kernel
theorem dX0_init_15 : decode cX0_init 15 = .ok (.iload_n 3, 1) := by decide +kernel
theorem dX0_init_16 : decode cX0_init 16 = .ok (.putfield 18, 3) := by decide +kernel
theorem dX0_init_19 : decode cX0_init 19 = .ok (.aload_n 0, 1) := by decide +kernel
theorem dX0_init_20 : decode cX0_init 20 = .ok (.iload_n 1, 1) := by decide +kernel
theorem dX0_init_21 : decode cX0_init 21 = .ok (.putfield 21, 3) := by decide +kernel
theorem dX0_init_24 : decode cX0_init 24 = .ok (.aload_n 0, 1) := by decide +kernel
theorem dX0_init_25 : decode cX0_init 25 = .ok (.iconst (-1), 1) := by decide +kernel
theorem dX0_init_26 : decode cX0_init 26 = .ok (.putfield 24, 3) := by decide +kernel
theorem dX0_init_29 : decode cX0_init 29 = .ok (.return_, 1) := by decide +kernel
theorem dX0_forgetRating_0 : decode cX0_forgetRating 0 = .ok (.aload_n 0, 1) := by decide +kernel
theorem dX0_forgetRating_1 : decode cX0_forgetRating 1 = .ok (.aload_n 0, 1) := by decide +kernel
theorem dX0_forgetRating_2 : decode cX0_forgetRating 2 = .ok (.getfield 9, 3) := by decide +kernel
theorem dX0_forgetRating_5 : decode cX0_forgetRating 5 = .ok (.putfield 21, 3) := by decide +kernel
theorem dX0_forgetRating_8 : decode cX0_forgetRating 8 = .ok (.aload_n 0, 1) := by decide +kernel
theorem dX0_forgetRating_9 : decode cX0_forgetRating 9 = .ok (.iconst (-1), 1) := by decide +kernel
theorem dX0_forgetRating_10 : decode cX0_forgetRating 10 = .ok (.putfield 24, 3) := by decide +kernel
theorem dX0_forgetRating_13 : decode cX0_forgetRating 13 = .ok (.aload_n 0, 1) := by decide +kernel
theorem dX0_forgetRating_14 : decode cX0_forgetRating 14 = .ok (.iconst 0, 1) := by decide +kernel
theorem dX0_forgetRating_15 : decode cX0_forgetRating 15 = .ok (.putfield 27, 3) := by decide +kernel
theorem dX0_forgetRating_18 : decode cX0_forgetRating 18 = .ok (.return_, 1) := by decide +kernel
theorem dX0_takeFromBundle_0 : decode cX0_takeFromBundle 0 = .ok (.aload_n 0, 1) := by decide +kernel
theorem dX0_takeFromBundle_1 : decode cX0_takeFromBundle 1 = .ok (.getfield 21, 3) := by decide +kernel
theorem dX0_takeFromBundle_4 : decode cX0_takeFromBundle 4 = .ok (.aload_n 1, 1) := by decide +kernel
theorem dX0_takeFromBundle_5 : decode cX0_takeFromBundle 5 = .ok (.getfield 30, 3) := by decide +kernel
theorem dX0_takeFromBundle_8 : decode cX0_takeFromBundle 8 = .ok (.invokestatic 35, 3) := by decide +kernel
theorem dX0_takeFromBundle_11 : decode cX0_takeFromBundle 11 = .ok (.istore_n 2, 1) := by decide +kernel
theorem dX0_takeFromBundle_12 : decode cX0_takeFromBundle 12 = .ok (.aload_n 0, 1) := by decide +kernel
theorem dX0_takeFromBundle_13 : decode cX0_takeFromBundle 13 = .ok (.dup, 1) := by decide +kernel
theorem dX0_takeFromBundle_14 : decode cX0_takeFromBundle 14 = .ok (.getfield 21, 3) := by decide +kernel
theorem dX0_takeFromBundle_17 : decode cX0_takeFromBundle 17 = .ok (.iload_n 2, 1) := by decide +kernel
theorem dX0_takeFromBundle_18 : decode cX0_takeFromBundle 18 = .ok (.isub, 1) := by decide +kernel
theorem dX0_takeFromBundle_19 : decode cX0_takeFromBundle 19 = .ok (.putfield 21, 3) := by decide +kernel
theorem dX0_takeFromBundle_22 : decode cX0_takeFromBundle 22 = .ok (.iload_n 2, 1) := by decide +kernel
theorem dX0_takeFromBundle_23 : decode cX0_takeFromBundle 23 = .ok (.ifCond .le 18, 3) := by decide +kernel
theorem dX0_takeFromBundle_26 : decode cX0_takeFromBundle 26 = .ok (.aload_n 0, 1) := by decide +kernel
theorem dX0_takeFromBundle_27 : decode cX0_takeFromBundle 27 = .ok (.getfield 21, 3) := by decide +kernel
theorem dX0_takeFromBundle_30 : decode cX0_takeFromBundle 30 = .ok (.ifCond .ne 11, 3) := by decide +kernel
theorem dX0_takeFromBundle_33 : decode cX0_takeFromBundle 33 = .ok (.aload_n 0, 1) := by decide +kernel
theorem dX0_takeFromBundle_34 : decode cX0_takeFromBundle 34 = .ok (.aload_n 1, 1) := by decide +kernel
theorem dX0_takeFromBundle_35 : decode cX0_takeFromBundle 35 = .ok (.getfield 41, 3) := by decide +kernel
theorem dX0_takeFromBundle_38 : decode cX0_takeFromBundle 38 = .ok (.putfield 24, 3) := by decide +kernel
theorem dX0_takeFromBundle_41 : decode cX0_takeFromBundle 41 = .ok (.iload_n 2, 1) := by decide +kernel
theorem dX0_takeFromBundle_42 : decode cX0_takeFromBundle 42 = .ok (.ireturn, 1) := by decide +kernel
theorem dX0_cents_0 : decode cX0_cents 0 = .ok (.iconst 0, 1) := by decide +kernel
theorem dX0_cents_1 : decode cX0_cents 1 = .ok (.aload_n 0, 1) := by decide +kernel
theorem dX0_cents_2 : decode cX0_cents 2 = .ok (.getfield 27, 3) := by decide +kernel
theorem dX0_cents_5 : decode cX0_cents 5 = .ok (.aload_n 0, 1) := by decide +kernel
theorem dX0_cents_6 : decode cX0_cents 6 = .ok (.getfield 15, 3) := by decide +kernel
theorem dX0_cents_9 : decode cX0_cents 9 = .ok (.isub, 1) := by decide +kernel
theorem dX0_cents_10 : decode cX0_cents 10 = .ok (.invokestatic 44, 3) := by decide +kernel
theorem dX0_cents_13 : decode cX0_cents 13 = .ok (.i2l, 1) := by decide +kernel
theorem dX0_cents_14 : decode cX0_cents 14 = .ok (.lstore_n 1, 1) := by decide +kernel
theorem dX0_cents_15 : decode cX0_cents 15 = .ok (.lload_n 1, 1) := by decide +kernel
theorem dX0_cents_16 : decode cX0_cents 16 = .ok (.aload_n 0, 1) := by decide +kernel
theorem dX0_cents_17 : decode cX0_cents 17 = .ok (.getfield 18, 3) := by decide +kernel
theorem dX0_cents_20 : decode cX0_cents 20 = .ok (.i2l, 1) := by decide +kernel
theorem dX0_cents_21 : decode cX0_cents 21 = .ok (.lmul, 1) := by decide +kernel
theorem dX0_cents_22 : decode cX0_cents 22 = .ok (.ldc2_w 47, 3) := by decide +kernel
theorem dX0_cents_25 : decode cX0_cents 25 = .ok (.ldiv, 1) := by decide +kernel
theorem dX0_cents_26 : decode cX0_cents 26 = .ok (.l2i, 1) := by decide +kernel
theorem dX0_cents_27 : decode cX0_cents 27 = .ok (.istore_n 3, 1) := by decide +kernel
theorem dX0_cents_28 : decode cX0_cents 28 = .ok (.aload_n 0, 1) := by decide +kernel
theorem dX0_cents_29 : decode cX0_cents 29 = .ok (.getfield 27, 3) := by decide +kernel
theorem dX0_cents_32 : decode cX0_cents 32 = .ok (.iload_n 3, 1) := by decide +kernel
theorem dX0_cents_33 : decode cX0_cents 33 = .ok (.isub, 1) := by decide +kernel
theorem dX0_cents_34 : decode cX0_cents 34 = .ok (.iconst 5, 1) := by decide +kernel
theorem dX0_cents_35 : decode cX0_cents 35 = .ok (.iadd, 1) := by decide +kernel
theorem dX0_cents_36 : decode cX0_cents 36 = .ok (.bipush 10, 2) := by decide +kernel
theorem dX0_cents_38 : decode cX0_cents 38 = .ok (.idiv, 1) := by decide +kernel
theorem dX0_cents_39 : decode cX0_cents 39 = .ok (.ireturn, 1) := by decide +kernel
theorem dX1_init_0 : decode cX1_init 0 = .ok (.aload_n 0, 1) := by decide +kernel
theorem dX1_init_1 : decode cX1_init 1 = .ok (.invokespecial 3, 3) := by decide +kernel
theorem dX1_init_4 : decode cX1_init 4 = .ok (.aload_n 0, 1) := by decide +kernel
theorem dX1_init_5 : decode cX1_init 5 = .ok (.iload_n 1, 1) := by decide +kernel
theorem dX1_init_6 : decode cX1_init 6 = .ok (.putfield 9, 3) := by decide +kernel
theorem dX1_init_9 : decode cX1_init 9 = .ok (.aload_n 0, 1) := by decide +kernel
theorem dX1_init_10 : decode cX1_init 10 = .ok (.aload_n 2, 1) := by decide +kernel
theorem dX1_init_11 : decode cX1_init 11 = .ok (.putfield 15, 3) := by decide +kernel
theorem dX1_init_14 : decode cX1_init 14 = .ok (.aload_n 0, 1) := by decide +kernel
theorem dX1_init_15 : decode cX1_init 15 = .ok (.iload_n 3, 1) := by decide +kernel
theorem dX1_init_16 : decode cX1_init 16 = .ok (.putfield 19, 3) := by decide +kernel
theorem dX1_init_19 : decode cX1_init 19 = .ok (.aload_n 0, 1) := by decide +kernel
theorem dX1_init_20 : decode cX1_init 20 = .ok (.iload 4, 2) := by decide +kernel
theorem dX1_init_22 : decode cX1_init 22 = .ok (.putfield 22, 3) := by decide +kernel
theorem dX1_init_25 : decode cX1_init 25 = .ok (.aload_n 0, 1) := by decide +kernel
theorem dX1_init_26 : decode cX1_init 26 = .ok (.iload 5, 2) := by decide +kernel
theorem dX1_init_28 : decode cX1_init 28 = .ok (.putfield 25, 3) := by decide +kernel
theorem dX1_init_31 : decode cX1_init 31 = .ok (.return_, 1) := by decide +kernel
theorem dX1_day_0 : decode cX1_day 0 = .ok (.aload_n 0, 1) := by decide +kernel
theorem dX1_day_1 : decode cX1_day 1 = .ok (.getfield 19, 3) := by decide +kernel
theorem dX1_day_4 : decode cX1_day 4 = .ok (.sipush 1440, 3) := by decide +kernel
theorem dX1_day_7 : decode cX1_day 7 = .ok (.idiv, 1) := by decide +kernel
theorem dX1_day_8 : decode cX1_day 8 = .ok (.ireturn, 1) := by decide +kernel
theorem dX1_forgetRating_0 : decode cX1_forgetRating 0 = .ok (.aload_n 0, 1) := by decide +kernel
theorem dX1_forgetRating_1 : decode cX1_forgetRating 1 = .ok (.iconst 0, 1) := by decide +kernel
theorem dX1_forgetRating_2 : decode cX1_forgetRating 2 = .ok (.putfield 28, 3) := by decide +kernel
theorem dX1_forgetRating_5 : decode cX1_forgetRating 5 = .ok (.aload_n 0, 1) := by decide +kernel
theorem dX1_forgetRating_6 : decode cX1_forgetRating 6 = .ok (.iconst 0, 1) := by decide +kernel
theorem dX1_forgetRating_7 : decode cX1_forgetRating 7 = .ok (.putfield 31, 3) := by decide +kernel
theorem dX1_forgetRating_10 : decode cX1_forgetRating 10 = .ok (.aload_n 0, 1) := by decide +kernel
theorem dX1_forgetRating_11 : decode cX1_forgetRating 11 = .ok (.iconst 0, 1) := by decide +kernel
theorem dX1_forgetRating_12 : decode cX1_forgetRating 12 = .ok (.putfield 34, 3) := by decide +kernel
theorem dX1_forgetRating_15 : decode cX1_forgetRating 15 = .ok (.aload_n 0, 1) := by decide +kernel
theorem dX1_forgetRating_16 : decode cX1_forgetRating 16 = .ok (.iconst 0, 1) := by decide +kernel
theorem dX1_forgetRating_17 : decode cX1_forgetRating 17 = .ok (.putfield 37, 3) := by decide +kernel
theorem dX1_forgetRating_20 : decode cX1_forgetRating 20 = .ok (.return_, 1) := by decide +kernel
theorem dX1_tell_0 : decode cX1_tell 0 = .ok (.iload_n 1, 1) := by decide +kernel
theorem dX1_tell_1 : decode cX1_tell 1 = .ok (.tableswitch 51 0 3 #[31, 36, 41, 46], 31) := by decide +kernel
theorem dX1_tell_32 : decode cX1_tell 32 = .ok (.aload_n 0, 1) := by decide +kernel
theorem dX1_tell_33 : decode cX1_tell 33 = .ok (.getfield 22, 3) := by decide +kernel
theorem dX1_tell_36 : decode cX1_tell 36 = .ok (.ireturn, 1) := by decide +kernel
theorem dX1_tell_37 : decode cX1_tell 37 = .ok (.aload_n 0, 1) := by decide +kernel
theorem dX1_tell_38 : decode cX1_tell 38 = .ok (.getfield 28, 3) := by decide +kernel
theorem dX1_tell_41 : decode cX1_tell 41 = .ok (.ireturn, 1) := by decide +kernel
theorem dX1_tell_42 : decode cX1_tell 42 = .ok (.aload_n 0, 1) := by decide +kernel
theorem dX1_tell_43 : decode cX1_tell 43 = .ok (.getfield 31, 3) := by decide +kernel
theorem dX1_tell_46 : decode cX1_tell 46 = .ok (.ireturn, 1) := by decide +kernel
theorem dX1_tell_47 : decode cX1_tell 47 = .ok (.aload_n 0, 1) := by decide +kernel
theorem dX1_tell_48 : decode cX1_tell 48 = .ok (.getfield 34, 3) := by decide +kernel
theorem dX1_tell_51 : decode cX1_tell 51 = .ok (.ireturn, 1) := by decide +kernel
theorem dX1_tell_52 : decode cX1_tell 52 = .ok (.aload_n 0, 1) := by decide +kernel
theorem dX1_tell_53 : decode cX1_tell 53 = .ok (.getfield 37, 3) := by decide +kernel
theorem dX1_tell_56 : decode cX1_tell 56 = .ok (.ireturn, 1) := by decide +kernel
theorem dX2_init_0 : decode cX2_init 0 = .ok (.aload_n 0, 1) := by decide +kernel
theorem dX2_init_1 : decode cX2_init 1 = .ok (.invokespecial 3, 3) := by decide +kernel
theorem dX2_init_4 : decode cX2_init 4 = .ok (.aload_n 0, 1) := by decide +kernel
theorem dX2_init_5 : decode cX2_init 5 = .ok (.iconst 3, 1) := by decide +kernel
theorem dX2_init_6 : decode cX2_init 6 = .ok (.newarray .int, 2) := by decide +kernel
theorem dX2_init_8 : decode cX2_init 8 = .ok (.putfield 9, 3) := by decide +kernel
theorem dX2_init_11 : decode cX2_init 11 = .ok (.aload_n 0, 1) := by decide +kernel
theorem dX2_init_12 : decode cX2_init 12 = .ok (.iconst 3, 1) := by decide +kernel
theorem dX2_init_13 : decode cX2_init 13 = .ok (.newarray .int, 2) := by decide +kernel
theorem dX2_init_15 : decode cX2_init 15 = .ok (.putfield 15, 3) := by decide +kernel
theorem dX2_init_18 : decode cX2_init 18 = .ok (.aload_n 0, 1) := by decide +kernel
theorem dX2_init_19 : decode cX2_init 19 = .ok (.iconst 3, 1) := by decide +kernel
theorem dX2_init_20 : decode cX2_init 20 = .ok (.newarray .int, 2) := by decide +kernel
theorem dX2_init_22 : decode cX2_init 22 = .ok (.putfield 18, 3) := by decide +kernel
theorem dX2_init_25 : decode cX2_init 25 = .ok (.aload_n 0, 1) := by decide +kernel
theorem dX2_init_26 : decode cX2_init 26 = .ok (.aload_n 1, 1) := by decide +kernel
theorem dX2_init_27 : decode cX2_init 27 = .ok (.putfield 21, 3) := by decide +kernel
theorem dX2_init_30 : decode cX2_init 30 = .ok (.aload_n 0, 1) := by decide +kernel
theorem dX2_init_31 : decode cX2_init 31 = .ok (.aload_n 2, 1) := by decide +kernel
theorem dX2_init_32 : decode cX2_init 32 = .ok (.putfield 25, 3) := by decide +kernel
theorem dX2_init_35 : decode cX2_init 35 = .ok (.return_, 1) := by decide +kernel
theorem dX2_forgetRating_0 : decode cX2_forgetRating 0 = .ok (.aload_n 0, 1) := by decide +kernel
theorem dX2_forgetRating_1 : decode cX2_forgetRating 1 = .ok (.iconst 0, 1) := by decide +kernel
theorem dX2_forgetRating_2 : decode cX2_forgetRating 2 = .ok (.putfield 29, 3) := by decide +kernel
theorem dX2_forgetRating_5 : decode cX2_forgetRating 5 = .ok (.iconst 1, 1) := by decide +kernel
theorem dX2_forgetRating_6 : decode cX2_forgetRating 6 = .ok (.istore_n 1, 1) := by decide +kernel
theorem dX2_forgetRating_7 : decode cX2_forgetRating 7 = .ok (.iload_n 1, 1) := by decide +kernel
theorem dX2_forgetRating_8 : decode cX2_forgetRating 8 = .ok (.iconst 3, 1) := by decide +kernel
theorem dX2_forgetRating_9 : decode cX2_forgetRating 9 = .ok (.if_icmp .ge 23, 3) := by decide +kernel
theorem dX2_forgetRating_12 : decode cX2_forgetRating 12 = .ok (.aload_n 0, 1) := by decide +kernel
theorem dX2_forgetRating_13 : decode cX2_forgetRating 13 = .ok (.getfield 9, 3) := by decide +kernel
theorem dX2_forgetRating_16 : decode cX2_forgetRating 16 = .ok (.iload_n 1, 1) := by decide +kernel
theorem dX2_forgetRating_17 : decode cX2_forgetRating 17 = .ok (.iconst 0, 1) := by decide +kernel
theorem dX2_forgetRating_18 : decode cX2_forgetRating 18 = .ok (.iastore, 1) := by decide +kernel
theorem dX2_forgetRating_19 : decode cX2_forgetRating 19 = .ok (.aload_n 0, 1) := by decide +kernel
theorem dX2_forgetRating_20 : decode cX2_forgetRating 20 = .ok (.getfield 15, 3) := by decide +kernel
theorem dX2_forgetRating_23 : decode cX2_forgetRating 23 = .ok (.iload_n 1, 1) := by decide +kernel
theorem dX2_forgetRating_24 : decode cX2_forgetRating 24 = .ok (.iconst (-1), 1) := by decide +kernel
theorem dX2_forgetRating_25 : decode cX2_forgetRating 25 = .ok (.iastore, 1) := by decide +kernel
theorem dX2_forgetRating_26 : decode cX2_forgetRating 26 = .ok (.iinc 1 1, 3) := by decide +kernel
theorem dX2_forgetRating_29 : decode cX2_forgetRating 29 = .ok (.goto (-22), 3) := by decide +kernel
theorem dX2_forgetRating_32 : decode cX2_forgetRating 32 = .ok (.return_, 1) := by decide +kernel
theorem dX2_beginsFeeDay_0 : decode cX2_beginsFeeDay 0 = .ok (.aload_n 0, 1) := by decide +kernel
theorem dX2_beginsFeeDay_1 : decode cX2_beginsFeeDay 1 = .ok (.getfield 15, 3) := by decide +kernel
theorem dX2_beginsFeeDay_4 : decode cX2_beginsFeeDay 4 = .ok (.iload_n 1, 1) := by decide +kernel
theorem dX2_beginsFeeDay_5 : decode cX2_beginsFeeDay 5 = .ok (.iaload, 1) := by decide +kernel
theorem dX2_beginsFeeDay_6 : decode cX2_beginsFeeDay 6 = .ok (.iload_n 2, 1) := by decide +kernel
theorem dX2_beginsFeeDay_7 : decode cX2_beginsFeeDay 7 = .ok (.if_icmp .ne 5, 3) := by decide +kernel
theorem dX2_beginsFeeDay_10 : decode cX2_beginsFeeDay 10 = .ok (.iconst 0, 1) := by decide +kernel
theorem dX2_beginsFeeDay_11 : decode cX2_beginsFeeDay 11 = .ok (.ireturn, 1) := by decide +kernel
theorem dX2_beginsFeeDay_12 : decode cX2_beginsFeeDay 12 = .ok (.aload_n 0, 1) := by decide +kernel
theorem dX2_beginsFeeDay_13 : decode cX2_beginsFeeDay 13 = .ok (.getfield 15, 3) := by decide +kernel
theorem dX2_beginsFeeDay_16 : decode cX2_beginsFeeDay 16 = .ok (.iload_n 1, 1) := by decide +kernel
theorem dX2_beginsFeeDay_17 : decode cX2_beginsFeeDay 17 = .ok (.iload_n 2, 1) := by decide +kernel
theorem dX2_beginsFeeDay_18 : decode cX2_beginsFeeDay 18 = .ok (.iastore, 1) := by decide +kernel
theorem dX2_beginsFeeDay_19 : decode cX2_beginsFeeDay 19 = .ok (.aload_n 0, 1) := by decide +kernel
theorem dX2_beginsFeeDay_20 : decode cX2_beginsFeeDay 20 = .ok (.getfield 18, 3) := by decide +kernel
theorem dX2_beginsFeeDay_23 : decode cX2_beginsFeeDay 23 = .ok (.iload_n 1, 1) := by decide +kernel
theorem dX2_beginsFeeDay_24 : decode cX2_beginsFeeDay 24 = .ok (.sipush 1800, 3) := by decide +kernel
theorem dX2_beginsFeeDay_27 : decode cX2_beginsFeeDay 27 = .ok (.iastore, 1) := by decide +kernel
theorem dX2_beginsFeeDay_28 : decode cX2_beginsFeeDay 28 = .ok (.aload_n 0, 1) := by decide +kernel
theorem dX2_beginsFeeDay_29 : decode cX2_beginsFeeDay 29 = .ok (.getfield 9, 3) := by decide +kernel
theorem dX2_beginsFeeDay_32 : decode cX2_beginsFeeDay 32 = .ok (.iload_n 1, 1) := by decide +kernel
theorem dX2_beginsFeeDay_33 : decode cX2_beginsFeeDay 33 = .ok (.dup2, 1) := by decide +kernel
theorem dX2_beginsFeeDay_34 : decode cX2_beginsFeeDay 34 = .ok (.iaload, 1) := by decide +kernel
theorem dX2_beginsFeeDay_35 : decode cX2_beginsFeeDay 35 = .ok (.iconst 1, 1) := by decide +kernel
theorem dX2_beginsFeeDay_36 : decode cX2_beginsFeeDay 36 = .ok (.iadd, 1) := by decide +kernel
theorem dX2_beginsFeeDay_37 : decode cX2_beginsFeeDay 37 = .ok (.iastore, 1) := by decide +kernel
theorem dX2_beginsFeeDay_38 : decode cX2_beginsFeeDay 38 = .ok (.iconst 1, 1) := by decide +kernel
theorem dX2_beginsFeeDay_39 : decode cX2_beginsFeeDay 39 = .ok (.ireturn, 1) := by decide +kernel
theorem dX2_takeFreeOfDay_0 : decode cX2_takeFreeOfDay 0 = .ok (.aload_n 0, 1) := by decide +kernel
theorem dX2_takeFreeOfDay_1 : decode cX2_takeFreeOfDay 1 = .ok (.getfield 18, 3) := by decide +kernel
theorem dX2_takeFreeOfDay_4 : decode cX2_takeFreeOfDay 4 = .ok (.iload_n 1, 1) := by decide +kernel
theorem dX2_takeFreeOfDay_5 : decode cX2_takeFreeOfDay 5 = .ok (.iaload, 1) := by decide +kernel
theorem dX2_takeFreeOfDay_6 : decode cX2_takeFreeOfDay 6 = .ok (.iload_n 2, 1) := by decide +kernel
theorem dX2_takeFreeOfDay_7 : decode cX2_takeFreeOfDay 7 = .ok (.invokestatic 33, 3) := by decide +kernel
theorem dX2_takeFreeOfDay_10 : decode cX2_takeFreeOfDay 10 = .ok (.istore_n 3, 1) := by decide +kernel
theorem dX2_takeFreeOfDay_11 : decode cX2_takeFreeOfDay 11 = .ok (.aload_n 0, 1) := by decide +kernel
theorem dX2_takeFreeOfDay_12 : decode cX2_takeFreeOfDay 12 = .ok (.getfield 18, 3) := by decide +kernel
theorem dX2_takeFreeOfDay_15 : decode cX2_takeFreeOfDay 15 = .ok (.iload_n 1, 1) := by decide +kernel
theorem dX2_takeFreeOfDay_16 : decode cX2_takeFreeOfDay 16 = .ok (.dup2, 1) := by decide +kernel
theorem dX2_takeFreeOfDay_17 : decode cX2_takeFreeOfDay 17 = .ok (.iaload, 1) := by decide +kernel
theorem dX2_takeFreeOfDay_18 : decode cX2_takeFreeOfDay 18 = .ok (.iload_n 3, 1) := by decide +kernel
theorem dX2_takeFreeOfDay_19 : decode cX2_takeFreeOfDay 19 = .ok (.isub, 1) := by decide +kernel
theorem dX2_takeFreeOfDay_20 : decode cX2_takeFreeOfDay 20 = .ok (.iastore, 1) := by decide +kernel
theorem dX2_takeFreeOfDay_21 : decode cX2_takeFreeOfDay 21 = .ok (.iload_n 3, 1) := by decide +kernel
theorem dX2_takeFreeOfDay_22 : decode cX2_takeFreeOfDay 22 = .ok (.ireturn, 1) := by decide +kernel
theorem dX3_init_0 : decode cX3_init 0 = .ok (.aload_n 0, 1) := by decide +kernel
theorem dX3_init_1 : decode cX3_init 1 = .ok (.invokespecial 3, 3) := by decide +kernel
theorem dX3_init_4 : decode cX3_init 4 = .ok (.aload_n 0, 1) := by decide +kernel
theorem dX3_init_5 : decode cX3_init 5 = .ok (.iconst 3, 1) := by decide +kernel
theorem dX3_init_6 : decode cX3_init 6 = .ok (.newarray .int, 2) := by decide +kernel
theorem dX3_init_8 : decode cX3_init 8 = .ok (.putfield 9, 3) := by decide +kernel
theorem dX3_init_11 : decode cX3_init 11 = .ok (.aload_n 0, 1) := by decide +kernel
theorem dX3_init_12 : decode cX3_init 12 = .ok (.iconst 3, 1) := by decide +kernel
theorem dX3_init_13 : decode cX3_init 13 = .ok (.newarray .int, 2) := by decide +kernel
theorem dX3_init_15 : decode cX3_init 15 = .ok (.putfield 15, 3) := by decide +kernel
theorem dX3_init_18 : decode cX3_init 18 = .ok (.aload_n 0, 1) := by decide +kernel
theorem dX3_init_19 : decode cX3_init 19 = .ok (.iload_n 1, 1) := by decide +kernel
theorem dX3_init_20 : decode cX3_init 20 = .ok (.putfield 18, 3) := by decide +kernel
theorem dX3_init_23 : decode cX3_init 23 = .ok (.aload_n 0, 1) := by decide +kernel
theorem dX3_init_24 : decode cX3_init 24 = .ok (.iload_n 2, 1) := by decide +kernel
theorem dX3_init_25 : decode cX3_init 25 = .ok (.putfield 22, 3) := by decide +kernel
theorem dX3_init_28 : decode cX3_init 28 = .ok (.aload_n 0, 1) := by decide +kernel
theorem dX3_init_29 : decode cX3_init 29 = .ok (.iload_n 3, 1) := by decide +kernel
theorem dX3_init_30 : decode cX3_init 30 = .ok (.putfield 25, 3) := by decide +kernel
theorem dX3_init_33 : decode cX3_init 33 = .ok (.aload_n 0, 1) := by decide +kernel
theorem dX3_init_34 : decode cX3_init 34 = .ok (.iload 4, 2) := by decide +kernel
theorem dX3_init_36 : decode cX3_init 36 = .ok (.putfield 28, 3) := by decide +kernel
theorem dX3_init_39 : decode cX3_init 39 = .ok (.aload_n 0, 1) := by decide +kernel
theorem dX3_init_40 : decode cX3_init 40 = .ok (.iload 5, 2) := by decide +kernel
theorem dX3_init_42 : decode cX3_init 42 = .ok (.putfield 31, 3) := by decide +kernel
theorem dX3_init_45 : decode cX3_init 45 = .ok (.aload_n 0, 1) := by decide +kernel
theorem dX3_init_46 : decode cX3_init 46 = .ok (.iload 6, 2) := by decide +kernel
theorem dX3_init_48 : decode cX3_init 48 = .ok (.putfield 34, 3) := by decide +kernel
theorem dX3_init_51 : decode cX3_init 51 = .ok (.return_, 1) := by decide +kernel
theorem dX3_billedFor_0 : decode cX3_billedFor 0 = .ok (.iload_n 1, 1) := by decide +kernel
theorem dX3_billedFor_1 : decode cX3_billedFor 1 = .ok (.aload_n 0, 1) := by decide +kernel
theorem dX3_billedFor_2 : decode cX3_billedFor 2 = .ok (.getfield 31, 3) := by decide +kernel
theorem dX3_billedFor_5 : decode cX3_billedFor 5 = .ok (.if_icmp .le 11, 3) := by decide +kernel
theorem dX3_billedFor_8 : decode cX3_billedFor 8 = .ok (.aload_n 0, 1) := by decide +kernel
theorem dX3_billedFor_9 : decode cX3_billedFor 9 = .ok (.getfield 34, 3) := by decide +kernel
theorem dX3_billedFor_12 : decode cX3_billedFor 12 = .ok (.iconst 1, 1) := by decide +kernel
theorem dX3_billedFor_13 : decode cX3_billedFor 13 = .ok (.if_icmp .ge 8, 3) := by decide +kernel
theorem dX3_billedFor_16 : decode cX3_billedFor 16 = .ok (.aload_n 0, 1) := by decide +kernel
theorem dX3_billedFor_17 : decode cX3_billedFor 17 = .ok (.getfield 31, 3) := by decide +kernel
theorem dX3_billedFor_20 : decode cX3_billedFor 20 = .ok (.ireturn, 1) := by decide +kernel
theorem dX3_billedFor_21 : decode cX3_billedFor 21 = .ok (.iload_n 1, 1) := by decide +kernel
theorem dX3_billedFor_22 : decode cX3_billedFor 22 = .ok (.aload_n 0, 1) := by decide +kernel
theorem dX3_billedFor_23 : decode cX3_billedFor 23 = .ok (.getfield 31, 3) := by decide +kernel
theorem dX3_billedFor_26 : decode cX3_billedFor 26 = .ok (.isub, 1) := by decide +kernel
theorem dX3_billedFor_27 : decode cX3_billedFor 27 = .ok (.aload_n 0, 1) := by decide +kernel
theorem dX3_billedFor_28 : decode cX3_billedFor 28 = .ok (.getfield 34, 3) := by decide +kernel
theorem dX3_billedFor_31 : decode cX3_billedFor 31 = .ok (.iadd, 1) := by decide +kernel
theorem dX3_billedFor_32 : decode cX3_billedFor 32 = .ok (.iconst 1, 1) := by decide +kernel
theorem dX3_billedFor_33 : decode cX3_billedFor 33 = .ok (.isub, 1) := by decide +kernel
theorem dX3_billedFor_34 : decode cX3_billedFor 34 = .ok (.aload_n 0, 1) := by decide +kernel
theorem dX3_billedFor_35 : decode cX3_billedFor 35 = .ok (.getfield 34, 3) := by decide +kernel
theorem dX3_billedFor_38 : decode cX3_billedFor 38 = .ok (.idiv, 1) := by decide +kernel
theorem dX3_billedFor_39 : decode cX3_billedFor 39 = .ok (.istore_n 2, 1) := by decide +kernel
theorem dX3_billedFor_40 : decode cX3_billedFor 40 = .ok (.aload_n 0, 1) := by decide +kernel
theorem dX3_billedFor_41 : decode cX3_billedFor 41 = .ok (.getfield 31, 3) := by decide +kernel
theorem dX3_billedFor_44 : decode cX3_billedFor 44 = .ok (.iload_n 2, 1) := by decide +kernel
theorem dX3_billedFor_45 : decode cX3_billedFor 45 = .ok (.aload_n 0, 1) := by decide +kernel
theorem dX3_billedFor_46 : decode cX3_billedFor 46 = .ok (.getfield 34, 3) := by decide +kernel
theorem dX3_billedFor_49 : decode cX3_billedFor 49 = .ok (.imul, 1) := by decide +kernel
theorem dX3_billedFor_50 : decode cX3_billedFor 50 = .ok (.iadd, 1) := by decide +kernel
theorem dX3_billedFor_51 : decode cX3_billedFor 51 = .ok (.ireturn, 1) := by decide +kernel
theorem dX3_chargeFor_0 : decode cX3_chargeFor 0 = .ok (.iload_n 1, 1) := by decide +kernel
theorem dX3_chargeFor_1 : decode cX3_chargeFor 1 = .ok (.ifCond .gt 5, 3) := by decide +kernel
theorem dX3_chargeFor_4 : decode cX3_chargeFor 4 = .ok (.iconst 0, 1) := by decide +kernel
theorem dX3_chargeFor_5 : decode cX3_chargeFor 5 = .ok (.ireturn, 1) := by decide +kernel
theorem dX3_chargeFor_6 : decode cX3_chargeFor 6 = .ok (.aload_n 0, 1) := by decide +kernel
theorem dX3_chargeFor_7 : decode cX3_chargeFor 7 = .ok (.getfield 22, 3) := by decide +kernel
theorem dX3_chargeFor_10 : decode cX3_chargeFor 10 = .ok (.iload_n 1, 1) := by decide +kernel
theorem dX3_chargeFor_11 : decode cX3_chargeFor 11 = .ok (.iload_n 2, 1) := by decide +kernel
theorem dX3_chargeFor_12 : decode cX3_chargeFor 12 = .ok (.imul, 1) := by decide +kernel
theorem dX3_chargeFor_13 : decode cX3_chargeFor 13 = .ok (.bipush 60, 2) := by decide +kernel
theorem dX3_chargeFor_15 : decode cX3_chargeFor 15 = .ok (.iadd, 1) := by decide +kernel
theorem dX3_chargeFor_16 : decode cX3_chargeFor 16 = .ok (.iconst 1, 1) := by decide +kernel
theorem dX3_chargeFor_17 : decode cX3_chargeFor 17 = .ok (.isub, 1) := by decide +kernel
theorem dX3_chargeFor_18 : decode cX3_chargeFor 18 = .ok (.bipush 60, 2) := by decide +kernel
theorem dX3_chargeFor_20 : decode cX3_chargeFor 20 = .ok (.idiv, 1) := by decide +kernel
theorem dX3_chargeFor_21 : decode cX3_chargeFor 21 = .ok (.iadd, 1) := by decide +kernel
theorem dX3_chargeFor_22 : decode cX3_chargeFor 22 = .ok (.ireturn, 1) := by decide +kernel
theorem dX4_init_0 : decode cX4_init 0 = .ok (.aload_n 0, 1) := by decide +kernel
theorem dX4_init_1 : decode cX4_init 1 = .ok (.invokespecial 1, 3) := by decide +kernel
theorem dX4_init_4 : decode cX4_init 4 = .ok (.aload_n 0, 1) := by decide +kernel
theorem dX4_init_5 : decode cX4_init 5 = .ok (.new 7, 3) := by decide +kernel
theorem dX4_init_8 : decode cX4_init 8 = .ok (.dup, 1) := by decide +kernel
theorem dX4_init_9 : decode cX4_init 9 = .ok (.invokespecial 9, 3) := by decide +kernel
theorem dX4_init_12 : decode cX4_init 12 = .ok (.putfield 10, 3) := by decide +kernel
theorem dX4_init_15 : decode cX4_init 15 = .ok (.aload_n 0, 1) := by decide +kernel
theorem dX4_init_16 : decode cX4_init 16 = .ok (.new 7, 3) := by decide +kernel
theorem dX4_init_19 : decode cX4_init 19 = .ok (.dup, 1) := by decide +kernel
theorem dX4_init_20 : decode cX4_init 20 = .ok (.invokespecial 9, 3) := by decide +kernel
theorem dX4_init_23 : decode cX4_init 23 = .ok (.putfield 16, 3) := by decide +kernel
theorem dX4_init_26 : decode cX4_init 26 = .ok (.aload_n 0, 1) := by decide +kernel
theorem dX4_init_27 : decode cX4_init 27 = .ok (.new 7, 3) := by decide +kernel
theorem dX4_init_30 : decode cX4_init 30 = .ok (.dup, 1) := by decide +kernel
theorem dX4_init_31 : decode cX4_init 31 = .ok (.invokespecial 9, 3) := by decide +kernel
theorem dX4_init_34 : decode cX4_init 34 = .ok (.putfield 19, 3) := by decide +kernel
theorem dX4_init_37 : decode cX4_init 37 = .ok (.aload_n 0, 1) := by decide +kernel
theorem dX4_init_38 : decode cX4_init 38 = .ok (.new 7, 3) := by decide +kernel
theorem dX4_init_41 : decode cX4_init 41 = .ok (.dup, 1) := by decide +kernel
theorem dX4_init_42 : decode cX4_init 42 = .ok (.invokespecial 9, 3) := by decide +kernel
theorem dX4_init_45 : decode cX4_init 45 = .ok (.putfield 22, 3) := by decide +kernel
theorem dX4_init_48 : decode cX4_init 48 = .ok (.aload_n 0, 1) := by decide +kernel
theorem dX4_init_49 : decode cX4_init 49 = .ok (.new 7, 3) := by decide +kernel
theorem dX4_init_52 : decode cX4_init 52 = .ok (.dup, 1) := by decide +kernel
theorem dX4_init_53 : decode cX4_init 53 = .ok (.invokespecial 9, 3) := by decide +kernel
theorem dX4_init_56 : decode cX4_init 56 = .ok (.putfield 25, 3) := by decide +kernel
theorem dX4_init_59 : decode cX4_init 59 = .ok (.aload_n 0, 1) := by decide +kernel
theorem dX4_init_60 : decode cX4_init 60 = .ok (.sipush 480, 3) := by decide +kernel
theorem dX4_init_63 : decode cX4_init 63 = .ok (.putfield 28, 3) := by decide +kernel
theorem dX4_init_66 : decode cX4_init 66 = .ok (.aload_n 0, 1) := by decide +kernel
theorem dX4_init_67 : decode cX4_init 67 = .ok (.sipush 1079, 3) := by decide +kernel
theorem dX4_init_70 : decode cX4_init 70 = .ok (.putfield 32, 3) := by decide +kernel
theorem dX4_init_73 : decode cX4_init 73 = .ok (.return_, 1) := by decide +kernel
theorem dX4_addTariff_0 : decode cX4_addTariff 0 = .ok (.iload_n 1, 1) := by decide +kernel
theorem dX4_addTariff_1 : decode cX4_addTariff 1 = .ok (.invokestatic 35, 3) := by decide +kernel
theorem dX4_addTariff_4 : decode cX4_addTariff 4 = .ok (.ifCond .eq 17, 3) := by decide +kernel
theorem dX4_addTariff_7 : decode cX4_addTariff 7 = .ok (.iload_n 2, 1) := by decide +kernel
theorem dX4_addTariff_8 : decode cX4_addTariff 8 = .ok (.invokestatic 35, 3) := by decide +kernel
theorem dX4_addTariff_11 : decode cX4_addTariff 11 = .ok (.ifCond .eq 10, 3) := by decide +kernel
theorem dX4_addTariff_14 : decode cX4_addTariff 14 = .ok (.iload_n 3, 1) := by decide +kernel
theorem dX4_addTariff_15 : decode cX4_addTariff 15 = .ok (.invokestatic 35, 3) := by decide +kernel
theorem dX4_addTariff_18 : decode cX4_addTariff 18 = .ok (.ifCond .ne 13, 3) := by decide +kernel
theorem dX4_addTariff_21 : decode cX4_addTariff 21 = .ok (.new 39, 3) := by decide +kernel
theorem dX4_addTariff_24 : decode cX4_addTariff 24 = .ok (.dup, 1) := by decide +kernel
theorem dX4_addTariff_25 : decode cX4_addTariff 25 = .ok (.ldc 41, 2) := by decide +kernel
theorem dX4_addTariff_27 : decode cX4_addTariff 27 = .ok (.invokespecial 43, 3) := by decide +kernel
theorem dX4_addTariff_30 : decode cX4_addTariff 30 = .ok (.athrow, 1) := by decide +kernel
theorem dX4_addTariff_31 : decode cX4_addTariff 31 = .ok (.iload 4, 2) := by decide +kernel
theorem dX4_addTariff_33 : decode cX4_addTariff 33 = .ok (.iconst 1, 1) := by decide +kernel
theorem dX4_addTariff_34 : decode cX4_addTariff 34 = .ok (.sipush 300, 3) := by decide +kernel
theorem dX4_addTariff_37 : decode cX4_addTariff 37 = .ok (.invokestatic 46, 3) := by decide +kernel
theorem dX4_addTariff_40 : decode cX4_addTariff 40 = .ok (.ifCond .eq 15, 3) := by decide +kernel
theorem dX4_addTariff_43 : decode cX4_addTariff 43 = .ok (.iload 5, 2) := by decide +kernel
theorem dX4_addTariff_45 : decode cX4_addTariff 45 = .ok (.iconst 1, 1) := by decide +kernel
theorem dX4_addTariff_46 : decode cX4_addTariff 46 = .ok (.sipush 300, 3) := by decide +kernel
theorem dX4_addTariff_49 : decode cX4_addTariff 49 = .ok (.invokestatic 46, 3) := by decide +kernel
theorem dX4_addTariff_52 : decode cX4_addTariff 52 = .ok (.ifCond .ne 13, 3) := by decide +kernel
theorem dX4_addTariff_55 : decode cX4_addTariff 55 = .ok (.new 39, 3) := by decide +kernel
theorem dX4_addTariff_58 : decode cX4_addTariff 58 = .ok (.dup, 1) := by decide +kernel
theorem dX4_addTariff_59 : decode cX4_addTariff 59 = .ok (.ldc 50, 2) := by decide +kernel
theorem dX4_addTariff_61 : decode cX4_addTariff 61 = .ok (.invokespecial 43, 3) := by decide +kernel
theorem dX4_addTariff_64 : decode cX4_addTariff 64 = .ok (.athrow, 1) := by decide +kernel
theorem dX4_addTariff_65 : decode cX4_addTariff 65 = .ok (.aload_n 0, 1) := by decide +kernel
theorem dX4_addTariff_66 : decode cX4_addTariff 66 = .ok (.getfield 10, 3) := by decide +kernel
theorem dX4_addTariff_69 : decode cX4_addTariff 69 = .ok (.invokevirtual 52, 3) := by decide +kernel
theorem dX4_addTariff_72 : decode cX4_addTariff 72 = .ok (.istore 6, 2) := by decide +kernel
theorem dX4_addTariff_74 : decode cX4_addTariff 74 = .ok (.iload 6, 2) := by decide +kernel
theorem dX4_addTariff_76 : decode cX4_addTariff 76 = .ok (.iconst 5, 1) := by decide +kernel
theorem dX4_addTariff_77 : decode cX4_addTariff 77 = .ok (.if_icmp .lt 13, 3) := by decide +kernel
theorem dX4_addTariff_80 : decode cX4_addTariff 80 = .ok (.new 56, 3) := by decide +kernel
theorem dX4_addTariff_83 : decode cX4_addTariff 83 = .ok (.dup, 1) := by decide +kernel
theorem dX4_addTariff_84 : decode cX4_addTariff 84 = .ok (.ldc 58, 2) := by decide +kernel
theorem dX4_addTariff_86 : decode cX4_addTariff 86 = .ok (.invokespecial 60, 3) := by decide +kernel
theorem dX4_addTariff_89 : decode cX4_addTariff 89 = .ok (.athrow, 1) := by decide +kernel
theorem dX4_addTariff_90 : decode cX4_addTariff 90 = .ok (.aload_n 0, 1) := by decide +kernel
theorem dX4_addTariff_91 : decode cX4_addTariff 91 = .ok (.getfield 10, 3) := by decide +kernel
theorem dX4_addTariff_94 : decode cX4_addTariff 94 = .ok (.new 61, 3) := by decide +kernel
theorem dX4_addTariff_97 : decode cX4_addTariff 97 = .ok (.dup, 1) := by decide +kernel
theorem dX4_addTariff_98 : decode cX4_addTariff 98 = .ok (.iload 6, 2) := by decide +kernel
theorem dX4_addTariff_100 : decode cX4_addTariff 100 = .ok (.iload_n 1, 1) := by decide +kernel
theorem dX4_addTariff_101 : decode cX4_addTariff 101 = .ok (.iload_n 2, 1) := by decide +kernel
theorem dX4_addTariff_102 : decode cX4_addTariff 102 = .ok (.iload_n 3, 1) := by decide +kernel
theorem dX4_addTariff_103 : decode cX4_addTariff 103 = .ok (.iload 4, 2) := by decide +kernel
theorem dX4_addTariff_105 : decode cX4_addTariff 105 = .ok (.iload 5, 2) := by decide +kernel
theorem dX4_addTariff_107 : decode cX4_addTariff 107 = .ok (.invokespecial 63, 3) := by decide +kernel
theorem dX4_addTariff_110 : decode cX4_addTariff 110 = .ok (.invokevirtual 66, 3) := by decide +kernel
theorem dX4_addTariff_113 : decode cX4_addTariff 113 = .ok (.pop, 1) := by decide +kernel
theorem dX4_addTariff_114 : decode cX4_addTariff 114 = .ok (.iload 6, 2) := by decide +kernel
theorem dX4_addTariff_116 : decode cX4_addTariff 116 = .ok (.ireturn, 1) := by decide +kernel
theorem dX4_setZone_0 : decode cX4_setZone 0 = .ok (.aload_n 0, 1) := by decide +kernel
theorem dX4_setZone_1 : decode cX4_setZone 1 = .ok (.iload_n 1, 1) := by decide +kernel
theorem dX4_setZone_2 : decode cX4_setZone 2 = .ok (.invokevirtual 70, 3) := by decide +kernel
theorem dX4_setZone_5 : decode cX4_setZone 5 = .ok (.astore 5, 2) := by decide +kernel
theorem dX4_setZone_7 : decode cX4_setZone 7 = .ok (.iload_n 2, 1) := by decide +kernel
theorem dX4_setZone_8 : decode cX4_setZone 8 = .ok (.invokestatic 74, 3) := by decide +kernel
theorem dX4_setZone_11 : decode cX4_setZone 11 = .ok (.iload_n 3, 1) := by decide +kernel
theorem dX4_setZone_12 : decode cX4_setZone 12 = .ok (.invokestatic 35, 3) := by decide +kernel
theorem dX4_setZone_15 : decode cX4_setZone 15 = .ok (.ifCond .eq 11, 3) := by decide +kernel
theorem dX4_setZone_18 : decode cX4_setZone 18 = .ok (.iload 4, 2) := by decide +kernel
theorem dX4_setZone_20 : decode cX4_setZone 20 = .ok (.invokestatic 35, 3) := by decide +kernel
theorem dX4_setZone_23 : decode cX4_setZone 23 = .ok (.ifCond .ne 13, 3) := by decide +kernel
theorem dX4_setZone_26 : decode cX4_setZone 26 = .ok (.new 39, 3) := by decide +kernel
theorem dX4_setZone_29 : decode cX4_setZone 29 = .ok (.dup, 1) := by decide +kernel
theorem dX4_setZone_30 : decode cX4_setZone 30 = .ok (.ldc 78, 2) := by decide +kernel
theorem dX4_setZone_32 : decode cX4_setZone 32 = .ok (.invokespecial 43, 3) := by decide +kernel
theorem dX4_setZone_35 : decode cX4_setZone 35 = .ok (.athrow, 1) := by decide +kernel
theorem dX4_setZone_36 : decode cX4_setZone 36 = .ok (.aload 5, 2) := by decide +kernel
theorem dX4_setZone_38 : decode cX4_setZone 38 = .ok (.getfield 80, 3) := by decide +kernel
theorem dX4_setZone_41 : decode cX4_setZone 41 = .ok (.iload_n 2, 1) := by decide +kernel
theorem dX4_setZone_42 : decode cX4_setZone 42 = .ok (.iaload, 1) := by decide +kernel
theorem dX4_setZone_43 : decode cX4_setZone 43 = .ok (.istore 6, 2) := by decide +kernel
theorem dX4_setZone_45 : decode cX4_setZone 45 = .ok (.aload 5, 2) := by decide +kernel
theorem dX4_setZone_47 : decode cX4_setZone 47 = .ok (.getfield 80, 3) := by decide +kernel
theorem dX4_setZone_50 : decode cX4_setZone 50 = .ok (.iload_n 2, 1) := by decide +kernel
theorem dX4_setZone_51 : decode cX4_setZone 51 = .ok (.iload_n 3, 1) := by decide +kernel
theorem dX4_setZone_52 : decode cX4_setZone 52 = .ok (.iastore, 1) := by decide +kernel
theorem dX4_setZone_53 : decode cX4_setZone 53 = .ok (.aload 5, 2) := by decide +kernel
theorem dX4_setZone_55 : decode cX4_setZone 55 = .ok (.getfield 84, 3) := by decide +kernel
theorem dX4_setZone_58 : decode cX4_setZone 58 = .ok (.iload_n 2, 1) := by decide +kernel
theorem dX4_setZone_59 : decode cX4_setZone 59 = .ok (.iload 4, 2) := by decide +kernel
theorem dX4_setZone_61 : decode cX4_setZone 61 = .ok (.iastore, 1) := by decide +kernel
theorem dX4_setZone_62 : decode cX4_setZone 62 = .ok (.aload_n 0, 1) := by decide +kernel
theorem dX4_setZone_63 : decode cX4_setZone 63 = .ok (.invokevirtual 87, 3) := by decide +kernel
theorem dX4_setZone_66 : decode cX4_setZone 66 = .ok (.iload 6, 2) := by decide +kernel
theorem dX4_setZone_68 : decode cX4_setZone 68 = .ok (.ireturn, 1) := by decide +kernel
theorem dX4_addAccount_0 : decode cX4_addAccount 0 = .ok (.iload_n 1, 1) := by decide +kernel
theorem dX4_addAccount_1 : decode cX4_addAccount 1 = .ok (.invokestatic 95, 3) := by decide +kernel
theorem dX4_addAccount_4 : decode cX4_addAccount 4 = .ok (.iload_n 2, 1) := by decide +kernel
theorem dX4_addAccount_5 : decode cX4_addAccount 5 = .ok (.iconst 0, 1) := by decide +kernel
theorem dX4_addAccount_6 : decode cX4_addAccount 6 = .ok (.ldc 98, 2) := by decide +kernel
theorem dX4_addAccount_8 : decode cX4_addAccount 8 = .ok (.invokestatic 46, 3) := by decide +kernel
theorem dX4_addAccount_11 : decode cX4_addAccount 11 = .ok (.ifCond .ne 13, 3) := by decide +kernel
theorem dX4_addAccount_14 : decode cX4_addAccount 14 = .ok (.new 39, 3) := by decide +kernel
theorem dX4_addAccount_17 : decode cX4_addAccount 17 = .ok (.dup, 1) := by decide +kernel
theorem dX4_addAccount_18 : decode cX4_addAccount 18 = .ok (.ldc 99, 2) := by decide +kernel
theorem dX4_addAccount_20 : decode cX4_addAccount 20 = .ok (.invokespecial 43, 3) := by decide +kernel
theorem dX4_addAccount_23 : decode cX4_addAccount 23 = .ok (.athrow, 1) := by decide +kernel
theorem dX4_addAccount_24 : decode cX4_addAccount 24 = .ok (.iload_n 3, 1) := by decide +kernel
theorem dX4_addAccount_25 : decode cX4_addAccount 25 = .ok (.iconst 0, 1) := by decide +kernel
theorem dX4_addAccount_26 : decode cX4_addAccount 26 = .ok (.bipush 100, 2) := by decide +kernel
theorem dX4_addAccount_28 : decode cX4_addAccount 28 = .ok (.invokestatic 46, 3) := by decide +kernel
theorem dX4_addAccount_31 : decode cX4_addAccount 31 = .ok (.ifCond .ne 13, 3) := by decide +kernel
theorem dX4_addAccount_34 : decode cX4_addAccount 34 = .ok (.new 39, 3) := by decide +kernel
theorem dX4_addAccount_37 : decode cX4_addAccount 37 = .ok (.dup, 1) := by decide +kernel
theorem dX4_addAccount_38 : decode cX4_addAccount 38 = .ok (.ldc 101, 2) := by decide +kernel
theorem dX4_addAccount_40 : decode cX4_addAccount 40 = .ok (.invokespecial 43, 3) := by decide +kernel
theorem dX4_addAccount_43 : decode cX4_addAccount 43 = .ok (.athrow, 1) := by decide +kernel
theorem dX4_addAccount_44 : decode cX4_addAccount 44 = .ok (.aload_n 0, 1) := by decide +kernel
theorem dX4_addAccount_45 : decode cX4_addAccount 45 = .ok (.getfield 16, 3) := by decide +kernel
theorem dX4_addAccount_48 : decode cX4_addAccount 48 = .ok (.invokevirtual 52, 3) := by decide +kernel
theorem dX4_addAccount_51 : decode cX4_addAccount 51 = .ok (.istore 4, 2) := by decide +kernel
theorem dX4_addAccount_53 : decode cX4_addAccount 53 = .ok (.iload 4, 2) := by decide +kernel
theorem dX4_addAccount_55 : decode cX4_addAccount 55 = .ok (.iconst 4, 1) := by decide +kernel
theorem dX4_addAccount_56 : decode cX4_addAccount 56 = .ok (.if_icmp .lt 13, 3) := by decide +kernel
theorem dX4_addAccount_59 : decode cX4_addAccount 59 = .ok (.new 56, 3) := by decide +kernel
theorem dX4_addAccount_62 : decode cX4_addAccount 62 = .ok (.dup, 1) := by decide +kernel
theorem dX4_addAccount_63 : decode cX4_addAccount 63 = .ok (.ldc 103, 2) := by decide +kernel
theorem dX4_addAccount_65 : decode cX4_addAccount 65 = .ok (.invokespecial 60, 3) := by decide +kernel
theorem dX4_addAccount_68 : decode cX4_addAccount 68 = .ok (.athrow, 1) := by decide +kernel
theorem dX4_addAccount_69 : decode cX4_addAccount 69 = .ok (.aload_n 0, 1) := by decide +kernel
theorem dX4_addAccount_70 : decode cX4_addAccount 70 = .ok (.getfield 16, 3) := by decide +kernel
theorem dX4_addAccount_73 : decode cX4_addAccount 73 = .ok (.new 105, 3) := by decide +kernel
theorem dX4_addAccount_76 : decode cX4_addAccount 76 = .ok (.dup, 1) := by decide +kernel
theorem dX4_addAccount_77 : decode cX4_addAccount 77 = .ok (.iload_n 1, 1) := by decide +kernel
theorem dX4_addAccount_78 : decode cX4_addAccount 78 = .ok (.iload_n 2, 1) := by decide +kernel
theorem dX4_addAccount_79 : decode cX4_addAccount 79 = .ok (.iload_n 3, 1) := by decide +kernel
theorem dX4_addAccount_80 : decode cX4_addAccount 80 = .ok (.invokespecial 107, 3) := by decide +kernel
theorem dX4_addAccount_83 : decode cX4_addAccount 83 = .ok (.invokevirtual 66, 3) := by decide +kernel
theorem dX4_addAccount_86 : decode cX4_addAccount 86 = .ok (.pop, 1) := by decide +kernel
theorem dX4_addAccount_87 : decode cX4_addAccount 87 = .ok (.iload 4, 2) := by decide +kernel
theorem dX4_addAccount_89 : decode cX4_addAccount 89 = .ok (.ireturn, 1) := by decide +kernel
theorem dX4_addLine_0 : decode cX4_addLine 0 = .ok (.aload_n 0, 1) := by decide +kernel
theorem dX4_addLine_1 : decode cX4_addLine 1 = .ok (.iload_n 1, 1) := by decide +kernel
theorem dX4_addLine_2 : decode cX4_addLine 2 = .ok (.invokevirtual 110, 3) := by decide +kernel
theorem dX4_addLine_5 : decode cX4_addLine 5 = .ok (.astore_n 3, 1) := by decide +kernel
theorem dX4_addLine_6 : decode cX4_addLine 6 = .ok (.aload_n 0, 1) := by decide +kernel
theorem dX4_addLine_7 : decode cX4_addLine 7 = .ok (.iload_n 2, 1) := by decide +kernel
theorem dX4_addLine_8 : decode cX4_addLine 8 = .ok (.invokevirtual 70, 3) := by decide +kernel
theorem dX4_addLine_11 : decode cX4_addLine 11 = .ok (.astore 4, 2) := by decide +kernel
theorem dX4_addLine_13 : decode cX4_addLine 13 = .ok (.aload_n 0, 1) := by decide +kernel
theorem dX4_addLine_14 : decode cX4_addLine 14 = .ok (.getfield 19, 3) := by decide +kernel
theorem dX4_addLine_17 : decode cX4_addLine 17 = .ok (.invokevirtual 52, 3) := by decide +kernel
theorem dX4_addLine_20 : decode cX4_addLine 20 = .ok (.istore 5, 2) := by decide +kernel
theorem dX4_addLine_22 : decode cX4_addLine 22 = .ok (.iload 5, 2) := by decide +kernel
theorem dX4_addLine_24 : decode cX4_addLine 24 = .ok (.bipush 8, 2) := by decide +kernel
theorem dX4_addLine_26 : decode cX4_addLine 26 = .ok (.if_icmp .lt 13, 3) := by decide +kernel
theorem dX4_addLine_29 : decode cX4_addLine 29 = .ok (.new 56, 3) := by decide +kernel
theorem dX4_addLine_32 : decode cX4_addLine 32 = .ok (.dup, 1) := by decide +kernel
theorem dX4_addLine_33 : decode cX4_addLine 33 = .ok (.ldc 114, 2) := by decide +kernel
theorem dX4_addLine_35 : decode cX4_addLine 35 = .ok (.invokespecial 60, 3) := by decide +kernel
theorem dX4_addLine_38 : decode cX4_addLine 38 = .ok (.athrow, 1) := by decide +kernel
theorem dX4_addLine_39 : decode cX4_addLine 39 = .ok (.aload_n 0, 1) := by decide +kernel
theorem dX4_addLine_40 : decode cX4_addLine 40 = .ok (.getfield 19, 3) := by decide +kernel
theorem dX4_addLine_43 : decode cX4_addLine 43 = .ok (.new 116, 3) := by decide +kernel
theorem dX4_addLine_46 : decode cX4_addLine 46 = .ok (.dup, 1) := by decide +kernel
theorem dX4_addLine_47 : decode cX4_addLine 47 = .ok (.aload_n 3, 1) := by decide +kernel
theorem dX4_addLine_48 : decode cX4_addLine 48 = .ok (.aload 4, 2) := by decide +kernel
theorem dX4_addLine_50 : decode cX4_addLine 50 = .ok (.invokespecial 118, 3) := by decide +kernel
theorem dX4_addLine_53 : decode cX4_addLine 53 = .ok (.invokevirtual 66, 3) := by decide +kernel
theorem dX4_addLine_56 : decode cX4_addLine 56 = .ok (.pop, 1) := by decide +kernel
theorem dX4_addLine_57 : decode cX4_addLine 57 = .ok (.iload 5, 2) := by decide +kernel
theorem dX4_addLine_59 : decode cX4_addLine 59 = .ok (.ireturn, 1) := by decide +kernel
theorem dX4_addCall_0 : decode cX4_addCall 0 = .ok (.aload_n 0, 1) := by decide +kernel
theorem dX4_addCall_1 : decode cX4_addCall 1 = .ok (.iload_n 1, 1) := by decide +kernel
theorem dX4_addCall_2 : decode cX4_addCall 2 = .ok (.invokevirtual 121, 3) := by decide +kernel
theorem dX4_addCall_5 : decode cX4_addCall 5 = .ok (.astore 5, 2) := by decide +kernel
theorem dX4_addCall_7 : decode cX4_addCall 7 = .ok (.iload_n 2, 1) := by decide +kernel
theorem dX4_addCall_8 : decode cX4_addCall 8 = .ok (.iconst 0, 1) := by decide +kernel
theorem dX4_addCall_9 : decode cX4_addCall 9 = .ok (.ldc 139, 2) := by decide +kernel
theorem dX4_addCall_11 : decode cX4_addCall 11 = .ok (.invokestatic 46, 3) := by decide +kernel
theorem dX4_addCall_14 : decode cX4_addCall 14 = .ok (.ifCond .ne 13, 3) := by decide +kernel
theorem dX4_addCall_17 : decode cX4_addCall 17 = .ok (.new 39, 3) := by decide +kernel
theorem dX4_addCall_20 : decode cX4_addCall 20 = .ok (.dup, 1) := by decide +kernel
theorem dX4_addCall_21 : decode cX4_addCall 21 = .ok (.ldc 140, 2) := by decide +kernel
theorem dX4_addCall_23 : decode cX4_addCall 23 = .ok (.invokespecial 43, 3) := by decide +kernel
theorem dX4_addCall_26 : decode cX4_addCall 26 = .ok (.athrow, 1) := by decide +kernel
theorem dX4_addCall_27 : decode cX4_addCall 27 = .ok (.iload_n 3, 1) := by decide +kernel
theorem dX4_addCall_28 : decode cX4_addCall 28 = .ok (.iconst 1, 1) := by decide +kernel
theorem dX4_addCall_29 : decode cX4_addCall 29 = .ok (.sipush 7200, 3) := by decide +kernel
theorem dX4_addCall_32 : decode cX4_addCall 32 = .ok (.invokestatic 46, 3) := by decide +kernel
theorem dX4_addCall_35 : decode cX4_addCall 35 = .ok (.ifCond .ne 13, 3) := by decide +kernel
theorem dX4_addCall_38 : decode cX4_addCall 38 = .ok (.new 39, 3) := by decide +kernel
theorem dX4_addCall_41 : decode cX4_addCall 41 = .ok (.dup, 1) := by decide +kernel
theorem dX4_addCall_42 : decode cX4_addCall 42 = .ok (.ldc 142, 2) := by decide +kernel
theorem dX4_addCall_44 : decode cX4_addCall 44 = .ok (.invokespecial 43, 3) := by decide +kernel
theorem dX4_addCall_47 : decode cX4_addCall 47 = .ok (.athrow, 1) := by decide +kernel
theorem dX4_addCall_48 : decode cX4_addCall 48 = .ok (.iload 4, 2) := by decide +kernel
theorem dX4_addCall_50 : decode cX4_addCall 50 = .ok (.iconst 0, 1) := by decide +kernel
theorem dX4_addCall_51 : decode cX4_addCall 51 = .ok (.iconst 2, 1) := by decide +kernel
theorem dX4_addCall_52 : decode cX4_addCall 52 = .ok (.invokestatic 46, 3) := by decide +kernel
theorem dX4_addCall_55 : decode cX4_addCall 55 = .ok (.ifCond .ne 13, 3) := by decide +kernel
theorem dX4_addCall_58 : decode cX4_addCall 58 = .ok (.new 39, 3) := by decide +kernel
theorem dX4_addCall_61 : decode cX4_addCall 61 = .ok (.dup, 1) := by decide +kernel
theorem dX4_addCall_62 : decode cX4_addCall 62 = .ok (.ldc 144, 2) := by decide +kernel
theorem dX4_addCall_64 : decode cX4_addCall 64 = .ok (.invokespecial 43, 3) := by decide +kernel
theorem dX4_addCall_67 : decode cX4_addCall 67 = .ok (.athrow, 1) := by decide +kernel
theorem dX4_addCall_68 : decode cX4_addCall 68 = .ok (.aload_n 0, 1) := by decide +kernel
theorem dX4_addCall_69 : decode cX4_addCall 69 = .ok (.getfield 22, 3) := by decide +kernel
theorem dX4_addCall_72 : decode cX4_addCall 72 = .ok (.invokevirtual 52, 3) := by decide +kernel
theorem dX4_addCall_75 : decode cX4_addCall 75 = .ok (.istore 6, 2) := by decide +kernel
theorem dX4_addCall_77 : decode cX4_addCall 77 = .ok (.iload 6, 2) := by decide +kernel
theorem dX4_addCall_79 : decode cX4_addCall 79 = .ok (.bipush 60, 2) := by decide +kernel
theorem dX4_addCall_81 : decode cX4_addCall 81 = .ok (.if_icmp .lt 13, 3) := by decide +kernel
theorem dX4_addCall_84 : decode cX4_addCall 84 = .ok (.new 56, 3) := by decide +kernel
theorem dX4_addCall_87 : decode cX4_addCall 87 = .ok (.dup, 1) := by decide +kernel
theorem dX4_addCall_88 : decode cX4_addCall 88 = .ok (.ldc 146, 2) := by decide +kernel
theorem dX4_addCall_90 : decode cX4_addCall 90 = .ok (.invokespecial 60, 3) := by decide +kernel
theorem dX4_addCall_93 : decode cX4_addCall 93 = .ok (.athrow, 1) := by decide +kernel
theorem dX4_addCall_94 : decode cX4_addCall 94 = .ok (.new 148, 3) := by decide +kernel
theorem dX4_addCall_97 : decode cX4_addCall 97 = .ok (.dup, 1) := by decide +kernel
theorem dX4_addCall_98 : decode cX4_addCall 98 = .ok (.iload 6, 2) := by decide +kernel
theorem dX4_addCall_100 : decode cX4_addCall 100 = .ok (.aload 5, 2) := by decide +kernel
theorem dX4_addCall_102 : decode cX4_addCall 102 = .ok (.iload_n 2, 1) := by decide +kernel
theorem dX4_addCall_103 : decode cX4_addCall 103 = .ok (.iload_n 3, 1) := by decide +kernel
theorem dX4_addCall_104 : decode cX4_addCall 104 = .ok (.iload 4, 2) := by decide +kernel
theorem dX4_addCall_106 : decode cX4_addCall 106 = .ok (.invokespecial 150, 3) := by decide +kernel
theorem dX4_addCall_109 : decode cX4_addCall 109 = .ok (.astore 7, 2) := by decide +kernel
theorem dX4_addCall_111 : decode cX4_addCall 111 = .ok (.aload_n 0, 1) := by decide +kernel
theorem dX4_addCall_112 : decode cX4_addCall 112 = .ok (.getfield 22, 3) := by decide +kernel
theorem dX4_addCall_115 : decode cX4_addCall 115 = .ok (.aload 7, 2) := by decide +kernel
theorem dX4_addCall_117 : decode cX4_addCall 117 = .ok (.invokevirtual 66, 3) := by decide +kernel
theorem dX4_addCall_120 : decode cX4_addCall 120 = .ok (.pop, 1) := by decide +kernel
theorem dX4_addCall_121 : decode cX4_addCall 121 = .ok (.aload_n 0, 1) := by decide +kernel
theorem dX4_addCall_122 : decode cX4_addCall 122 = .ok (.aload 7, 2) := by decide +kernel
theorem dX4_addCall_124 : decode cX4_addCall 124 = .ok (.invokevirtual 153, 3) := by decide +kernel
theorem dX4_addCall_127 : decode cX4_addCall 127 = .ok (.aload_n 0, 1) := by decide +kernel
theorem dX4_addCall_128 : decode cX4_addCall 128 = .ok (.invokevirtual 87, 3) := by decide +kernel
theorem dX4_addCall_131 : decode cX4_addCall 131 = .ok (.iload 6, 2) := by decide +kernel
theorem dX4_addCall_133 : decode cX4_addCall 133 = .ok (.ireturn, 1) := by decide +kernel
theorem dX4_callCount_0 : decode cX4_callCount 0 = .ok (.aload_n 0, 1) := by decide +kernel
theorem dX4_callCount_1 : decode cX4_callCount 1 = .ok (.getfield 22, 3) := by decide +kernel
theorem dX4_callCount_4 : decode cX4_callCount 4 = .ok (.invokevirtual 52, 3) := by decide +kernel
theorem dX4_callCount_7 : decode cX4_callCount 7 = .ok (.ireturn, 1) := by decide +kernel
theorem dX4_callAt_0 : decode cX4_callAt 0 = .ok (.iload_n 1, 1) := by decide +kernel
theorem dX4_callAt_1 : decode cX4_callAt 1 = .ok (.ifCond .lt 14, 3) := by decide +kernel
theorem dX4_callAt_4 : decode cX4_callAt 4 = .ok (.iload_n 1, 1) := by decide +kernel
theorem dX4_callAt_5 : decode cX4_callAt 5 = .ok (.aload_n 0, 1) := by decide +kernel
theorem dX4_callAt_6 : decode cX4_callAt 6 = .ok (.getfield 25, 3) := by decide +kernel
theorem dX4_callAt_9 : decode cX4_callAt 9 = .ok (.invokevirtual 52, 3) := by decide +kernel
theorem dX4_callAt_12 : decode cX4_callAt 12 = .ok (.if_icmp .lt 13, 3) := by decide +kernel
theorem dX4_callAt_15 : decode cX4_callAt 15 = .ok (.new 166, 3) := by decide +kernel
theorem dX4_callAt_18 : decode cX4_callAt 18 = .ok (.dup, 1) := by decide +kernel
theorem dX4_callAt_19 : decode cX4_callAt 19 = .ok (.ldc 168, 2) := by decide +kernel
theorem dX4_callAt_21 : decode cX4_callAt 21 = .ok (.invokespecial 170, 3) := by decide +kernel
theorem dX4_callAt_24 : decode cX4_callAt 24 = .ok (.athrow, 1) := by decide +kernel
theorem dX4_callAt_25 : decode cX4_callAt 25 = .ok (.aload_n 0, 1) := by decide +kernel
theorem dX4_callAt_26 : decode cX4_callAt 26 = .ok (.getfield 25, 3) := by decide +kernel
theorem dX4_callAt_29 : decode cX4_callAt 29 = .ok (.iload_n 1, 1) := by decide +kernel
theorem dX4_callAt_30 : decode cX4_callAt 30 = .ok (.invokevirtual 171, 3) := by decide +kernel
theorem dX4_callAt_33 : decode cX4_callAt 33 = .ok (.checkcast 148, 3) := by decide +kernel
theorem dX4_callAt_36 : decode cX4_callAt 36 = .ok (.getfield 175, 3) := by decide +kernel
theorem dX4_callAt_39 : decode cX4_callAt 39 = .ok (.ireturn, 1) := by decide +kernel
theorem dX4_told_0 : decode cX4_told 0 = .ok (.aload_n 0, 1) := by decide +kernel
theorem dX4_told_1 : decode cX4_told 1 = .ok (.iload_n 1, 1) := by decide +kernel
theorem dX4_told_2 : decode cX4_told 2 = .ok (.invokevirtual 157, 3) := by decide +kernel
theorem dX4_told_5 : decode cX4_told 5 = .ok (.astore_n 3, 1) := by decide +kernel
theorem dX4_told_6 : decode cX4_told 6 = .ok (.iload_n 2, 1) := by decide +kernel
theorem dX4_told_7 : decode cX4_told 7 = .ok (.iconst 0, 1) := by decide +kernel
theorem dX4_told_8 : decode cX4_told 8 = .ok (.iconst 4, 1) := by decide +kernel
theorem dX4_told_9 : decode cX4_told 9 = .ok (.invokestatic 46, 3) := by decide +kernel
theorem dX4_told_12 : decode cX4_told 12 = .ok (.ifCond .ne 13, 3) := by decide +kernel
theorem dX4_told_15 : decode cX4_told 15 = .ok (.new 166, 3) := by decide +kernel
theorem dX4_told_18 : decode cX4_told 18 = .ok (.dup, 1) := by decide +kernel
theorem dX4_told_19 : decode cX4_told 19 = .ok (.ldc 180, 2) := by decide +kernel
theorem dX4_told_21 : decode cX4_told 21 = .ok (.invokespecial 170, 3) := by decide +kernel
theorem dX4_told_24 : decode cX4_told 24 = .ok (.athrow, 1) := by decide +kernel
theorem dX4_told_25 : decode cX4_told 25 = .ok (.aload_n 3, 1) := by decide +kernel
theorem dX4_told_26 : decode cX4_told 26 = .ok (.iload_n 2, 1) := by decide +kernel
theorem dX4_told_27 : decode cX4_told 27 = .ok (.invokevirtual 182, 3) := by decide +kernel
theorem dX4_told_30 : decode cX4_told 30 = .ok (.ireturn, 1) := by decide +kernel
theorem dX4_dearest_0 : decode cX4_dearest 0 = .ok (.iconst (-1), 1) := by decide +kernel
theorem dX4_dearest_1 : decode cX4_dearest 1 = .ok (.istore_n 1, 1) := by decide +kernel
theorem dX4_dearest_2 : decode cX4_dearest 2 = .ok (.iconst (-1), 1) := by decide +kernel
theorem dX4_dearest_3 : decode cX4_dearest 3 = .ok (.istore_n 2, 1) := by decide +kernel
theorem dX4_dearest_4 : decode cX4_dearest 4 = .ok (.iconst 0, 1) := by decide +kernel
theorem dX4_dearest_5 : decode cX4_dearest 5 = .ok (.istore_n 3, 1) := by decide +kernel
theorem dX4_dearest_6 : decode cX4_dearest 6 = .ok (.iload_n 3, 1) := by decide +kernel
theorem dX4_dearest_7 : decode cX4_dearest 7 = .ok (.aload_n 0, 1) := by decide +kernel
theorem dX4_dearest_8 : decode cX4_dearest 8 = .ok (.getfield 25, 3) := by decide +kernel
theorem dX4_dearest_11 : decode cX4_dearest 11 = .ok (.invokevirtual 52, 3) := by decide +kernel
theorem dX4_dearest_14 : decode cX4_dearest 14 = .ok (.if_icmp .ge 43, 3) := by decide +kernel
theorem dX4_dearest_17 : decode cX4_dearest 17 = .ok (.aload_n 0, 1) := by decide +kernel
theorem dX4_dearest_18 : decode cX4_dearest 18 = .ok (.getfield 25, 3) := by decide +kernel
theorem dX4_dearest_21 : decode cX4_dearest 21 = .ok (.iload_n 3, 1) := by decide +kernel
theorem dX4_dearest_22 : decode cX4_dearest 22 = .ok (.invokevirtual 171, 3) := by decide +kernel
theorem dX4_dearest_25 : decode cX4_dearest 25 = .ok (.checkcast 148, 3) := by decide +kernel
theorem dX4_dearest_28 : decode cX4_dearest 28 = .ok (.astore 4, 2) := by decide +kernel
theorem dX4_dearest_30 : decode cX4_dearest 30 = .ok (.aload 4, 2) := by decide +kernel
theorem dX4_dearest_32 : decode cX4_dearest 32 = .ok (.getfield 186, 3) := by decide +kernel
theorem dX4_dearest_35 : decode cX4_dearest 35 = .ok (.iload_n 2, 1) := by decide +kernel
theorem dX4_dearest_36 : decode cX4_dearest 36 = .ok (.if_icmp .le 15, 3) := by decide +kernel
theorem dX4_dearest_39 : decode cX4_dearest 39 = .ok (.aload 4, 2) := by decide +kernel
theorem dX4_dearest_41 : decode cX4_dearest 41 = .ok (.getfield 186, 3) := by decide +kernel
theorem dX4_dearest_44 : decode cX4_dearest 44 = .ok (.istore_n 2, 1) := by decide +kernel
theorem dX4_dearest_45 : decode cX4_dearest 45 = .ok (.aload 4, 2) := by decide +kernel
theorem dX4_dearest_47 : decode cX4_dearest 47 = .ok (.getfield 175, 3) := by decide +kernel
theorem dX4_dearest_50 : decode cX4_dearest 50 = .ok (.istore_n 1, 1) := by decide +kernel
theorem dX4_dearest_51 : decode cX4_dearest 51 = .ok (.iinc 3 1, 3) := by decide +kernel
theorem dX4_dearest_54 : decode cX4_dearest 54 = .ok (.goto (-48), 3) := by decide +kernel
theorem dX4_dearest_57 : decode cX4_dearest 57 = .ok (.iload_n 1, 1) := by decide +kernel
theorem dX4_dearest_58 : decode cX4_dearest 58 = .ok (.ireturn, 1) := by decide +kernel
theorem dX4_lineSum_0 : decode cX4_lineSum 0 = .ok (.aload_n 0, 1) := by decide +kernel
theorem dX4_lineSum_1 : decode cX4_lineSum 1 = .ok (.iload_n 1, 1) := by decide +kernel
theorem dX4_lineSum_2 : decode cX4_lineSum 2 = .ok (.invokevirtual 121, 3) := by decide +kernel
theorem dX4_lineSum_5 : decode cX4_lineSum 5 = .ok (.getfield 189, 3) := by decide +kernel
theorem dX4_lineSum_8 : decode cX4_lineSum 8 = .ok (.ireturn, 1) := by decide +kernel
theorem dX4_daySum_0 : decode cX4_daySum 0 = .ok (.iload_n 1, 1) := by decide +kernel
theorem dX4_daySum_1 : decode cX4_daySum 1 = .ok (.ifCond .lt 9, 3) := by decide +kernel
theorem dX4_daySum_4 : decode cX4_daySum 4 = .ok (.iload_n 1, 1) := by decide +kernel
theorem dX4_daySum_5 : decode cX4_daySum 5 = .ok (.bipush 30, 2) := by decide +kernel
theorem dX4_daySum_7 : decode cX4_daySum 7 = .ok (.if_icmp .lt 13, 3) := by decide +kernel
theorem dX4_daySum_10 : decode cX4_daySum 10 = .ok (.new 166, 3) := by decide +kernel
theorem dX4_daySum_13 : decode cX4_daySum 13 = .ok (.dup, 1) := by decide +kernel
theorem dX4_daySum_14 : decode cX4_daySum 14 = .ok (.ldc 192, 2) := by decide +kernel
theorem dX4_daySum_16 : decode cX4_daySum 16 = .ok (.invokespecial 170, 3) := by decide +kernel
theorem dX4_daySum_19 : decode cX4_daySum 19 = .ok (.athrow, 1) := by decide +kernel
theorem dX4_daySum_20 : decode cX4_daySum 20 = .ok (.iconst 0, 1) := by decide +kernel
theorem dX4_daySum_21 : decode cX4_daySum 21 = .ok (.istore_n 2, 1) := by decide +kernel
theorem dX4_daySum_22 : decode cX4_daySum 22 = .ok (.iconst 0, 1) := by decide +kernel
theorem dX4_daySum_23 : decode cX4_daySum 23 = .ok (.istore_n 3, 1) := by decide +kernel
theorem dX4_daySum_24 : decode cX4_daySum 24 = .ok (.iload_n 3, 1) := by decide +kernel
theorem dX4_daySum_25 : decode cX4_daySum 25 = .ok (.aload_n 0, 1) := by decide +kernel
theorem dX4_daySum_26 : decode cX4_daySum 26 = .ok (.getfield 22, 3) := by decide +kernel
theorem dX4_daySum_29 : decode cX4_daySum 29 = .ok (.invokevirtual 52, 3) := by decide +kernel
theorem dX4_daySum_32 : decode cX4_daySum 32 = .ok (.if_icmp .ge 39, 3) := by decide +kernel
theorem dX4_daySum_35 : decode cX4_daySum 35 = .ok (.aload_n 0, 1) := by decide +kernel
theorem dX4_daySum_36 : decode cX4_daySum 36 = .ok (.getfield 22, 3) := by decide +kernel
theorem dX4_daySum_39 : decode cX4_daySum 39 = .ok (.iload_n 3, 1) := by decide +kernel
theorem dX4_daySum_40 : decode cX4_daySum 40 = .ok (.invokevirtual 171, 3) := by decide +kernel
theorem dX4_daySum_43 : decode cX4_daySum 43 = .ok (.checkcast 148, 3) := by decide +kernel
theorem dX4_daySum_46 : decode cX4_daySum 46 = .ok (.astore 4, 2) := by decide +kernel
theorem dX4_daySum_48 : decode cX4_daySum 48 = .ok (.aload 4, 2) := by decide +kernel
theorem dX4_daySum_50 : decode cX4_daySum 50 = .ok (.invokevirtual 194, 3) := by decide +kernel
theorem dX4_daySum_53 : decode cX4_daySum 53 = .ok (.iload_n 1, 1) := by decide +kernel
theorem dX4_daySum_54 : decode cX4_daySum 54 = .ok (.if_icmp .ne 11, 3) := by decide +kernel
theorem dX4_daySum_57 : decode cX4_daySum 57 = .ok (.iload_n 2, 1) := by decide +kernel
theorem dX4_daySum_58 : decode cX4_daySum 58 = .ok (.aload 4, 2) := by decide +kernel
theorem dX4_daySum_60 : decode cX4_daySum 60 = .ok (.getfield 186, 3) := by decide +kernel
theorem dX4_daySum_63 : decode cX4_daySum 63 = .ok (.iadd, 1) := by decide +kernel
theorem dX4_daySum_64 : decode cX4_daySum 64 = .ok (.istore_n 2, 1) := by decide +kernel
theorem dX4_daySum_65 : decode cX4_daySum 65 = .ok (.iinc 3 1, 3) := by decide +kernel
theorem dX4_daySum_68 : decode cX4_daySum 68 = .ok (.goto (-44), 3) := by decide +kernel
theorem dX4_daySum_71 : decode cX4_daySum 71 = .ok (.iload_n 2, 1) := by decide +kernel
theorem dX4_daySum_72 : decode cX4_daySum 72 = .ok (.ireturn, 1) := by decide +kernel
theorem dX4_sum_0 : decode cX4_sum 0 = .ok (.aload_n 0, 1) := by decide +kernel
theorem dX4_sum_1 : decode cX4_sum 1 = .ok (.iload_n 1, 1) := by decide +kernel
theorem dX4_sum_2 : decode cX4_sum 2 = .ok (.invokevirtual 110, 3) := by decide +kernel
theorem dX4_sum_5 : decode cX4_sum 5 = .ok (.getfield 197, 3) := by decide +kernel
theorem dX4_sum_8 : decode cX4_sum 8 = .ok (.ireturn, 1) := by decide +kernel
theorem dX4_total_0 : decode cX4_total 0 = .ok (.aload_n 0, 1) := by decide +kernel
theorem dX4_total_1 : decode cX4_total 1 = .ok (.iload_n 1, 1) := by decide +kernel
theorem dX4_total_2 : decode cX4_total 2 = .ok (.invokevirtual 110, 3) := by decide +kernel
theorem dX4_total_5 : decode cX4_total 5 = .ok (.invokevirtual 198, 3) := by decide +kernel
theorem dX4_total_8 : decode cX4_total 8 = .ok (.ireturn, 1) := by decide +kernel
theorem dX4_freeShare_0 : decode cX4_freeShare 0 = .ok (.iconst 0, 1) := by decide +kernel
theorem dX4_freeShare_1 : decode cX4_freeShare 1 = .ok (.istore_n 1, 1) := by decide +kernel
theorem dX4_freeShare_2 : decode cX4_freeShare 2 = .ok (.iconst 0, 1) := by decide +kernel
theorem dX4_freeShare_3 : decode cX4_freeShare 3 = .ok (.istore_n 2, 1) := by decide +kernel
theorem dX4_freeShare_4 : decode cX4_freeShare 4 = .ok (.iconst 0, 1) := by decide +kernel
theorem dX4_freeShare_5 : decode cX4_freeShare 5 = .ok (.istore_n 3, 1) := by decide +kernel
theorem dX4_freeShare_6 : decode cX4_freeShare 6 = .ok (.iload_n 3, 1) := by decide +kernel
theorem dX4_freeShare_7 : decode cX4_freeShare 7 = .ok (.aload_n 0, 1) := by decide +kernel
theorem dX4_freeShare_8 : decode cX4_freeShare 8 = .ok (.getfield 22, 3) := by decide +kernel
theorem dX4_freeShare_11 : decode cX4_freeShare 11 = .ok (.invokevirtual 52, 3) := by decide +kernel
theorem dX4_freeShare_14 : decode cX4_freeShare 14 = .ok (.if_icmp .ge 38, 3) := by decide +kernel
theorem dX4_freeShare_17 : decode cX4_freeShare 17 = .ok (.aload_n 0, 1) := by decide +kernel
theorem dX4_freeShare_18 : decode cX4_freeShare 18 = .ok (.getfield 22, 3) := by decide +kernel
theorem dX4_freeShare_21 : decode cX4_freeShare 21 = .ok (.iload_n 3, 1) := by decide +kernel
theorem dX4_freeShare_22 : decode cX4_freeShare 22 = .ok (.invokevirtual 171, 3) := by decide +kernel
theorem dX4_freeShare_25 : decode cX4_freeShare 25 = .ok (.checkcast 148, 3) := by decide +kernel
theorem dX4_freeShare_28 : decode cX4_freeShare 28 = .ok (.astore 4, 2) := by decide +kernel
theorem dX4_freeShare_30 : decode cX4_freeShare 30 = .ok (.iload_n 1, 1) := by decide +kernel
theorem dX4_freeShare_31 : decode cX4_freeShare 31 = .ok (.aload 4, 2) := by decide +kernel
theorem dX4_freeShare_33 : decode cX4_freeShare 33 = .ok (.getfield 214, 3) := by decide +kernel
theorem dX4_freeShare_36 : decode cX4_freeShare 36 = .ok (.iadd, 1) := by decide +kernel
theorem dX4_freeShare_37 : decode cX4_freeShare 37 = .ok (.istore_n 1, 1) := by decide +kernel
theorem dX4_freeShare_38 : decode cX4_freeShare 38 = .ok (.iload_n 2, 1) := by decide +kernel
theorem dX4_freeShare_39 : decode cX4_freeShare 39 = .ok (.aload 4, 2) := by decide +kernel
theorem dX4_freeShare_41 : decode cX4_freeShare 41 = .ok (.getfield 217, 3) := by decide +kernel
theorem dX4_freeShare_44 : decode cX4_freeShare 44 = .ok (.iadd, 1) := by decide +kernel
theorem dX4_freeShare_45 : decode cX4_freeShare 45 = .ok (.istore_n 2, 1) := by decide +kernel
theorem dX4_freeShare_46 : decode cX4_freeShare 46 = .ok (.iinc 3 1, 3) := by decide +kernel
theorem dX4_freeShare_49 : decode cX4_freeShare 49 = .ok (.goto (-43), 3) := by decide +kernel
theorem dX4_freeShare_52 : decode cX4_freeShare 52 = .ok (.iload_n 2, 1) := by decide +kernel
theorem dX4_freeShare_53 : decode cX4_freeShare 53 = .ok (.ifCond .ne 5, 3) := by decide +kernel
theorem dX4_freeShare_56 : decode cX4_freeShare 56 = .ok (.dconst 0, 1) := by decide +kernel
theorem dX4_freeShare_57 : decode cX4_freeShare 57 = .ok (.dreturn, 1) := by decide +kernel
theorem dX4_freeShare_58 : decode cX4_freeShare 58 = .ok (.iload_n 1, 1) := by decide +kernel
theorem dX4_freeShare_59 : decode cX4_freeShare 59 = .ok (.i2d, 1) := by decide +kernel
theorem dX4_freeShare_60 : decode cX4_freeShare 60 = .ok (.iload_n 2, 1) := by decide +kernel
theorem dX4_freeShare_61 : decode cX4_freeShare 61 = .ok (.i2d, 1) := by decide +kernel
theorem dX4_freeShare_62 : decode cX4_freeShare 62 = .ok (.ddiv, 1) := by decide +kernel
theorem dX4_freeShare_63 : decode cX4_freeShare 63 = .ok (.dreturn, 1) := by decide +kernel
theorem dX4_putInOrder_0 : decode cX4_putInOrder 0 = .ok (.iconst 0, 1) := by decide +kernel
theorem dX4_putInOrder_1 : decode cX4_putInOrder 1 = .ok (.istore_n 2, 1) := by decide +kernel
theorem dX4_putInOrder_2 : decode cX4_putInOrder 2 = .ok (.iload_n 2, 1) := by decide +kernel
theorem dX4_putInOrder_3 : decode cX4_putInOrder 3 = .ok (.aload_n 0, 1) := by decide +kernel
theorem dX4_putInOrder_4 : decode cX4_putInOrder 4 = .ok (.getfield 25, 3) := by decide +kernel
theorem dX4_putInOrder_7 : decode cX4_putInOrder 7 = .ok (.invokevirtual 52, 3) := by decide +kernel
theorem dX4_putInOrder_10 : decode cX4_putInOrder 10 = .ok (.if_icmp .ge 30, 3) := by decide +kernel
theorem dX4_putInOrder_13 : decode cX4_putInOrder 13 = .ok (.aload_n 0, 1) := by decide +kernel
theorem dX4_putInOrder_14 : decode cX4_putInOrder 14 = .ok (.getfield 25, 3) := by decide +kernel
theorem dX4_putInOrder_17 : decode cX4_putInOrder 17 = .ok (.iload_n 2, 1) := by decide +kernel
theorem dX4_putInOrder_18 : decode cX4_putInOrder 18 = .ok (.invokevirtual 171, 3) := by decide +kernel
theorem dX4_putInOrder_21 : decode cX4_putInOrder 21 = .ok (.checkcast 148, 3) := by decide +kernel
theorem dX4_putInOrder_24 : decode cX4_putInOrder 24 = .ok (.getfield 238, 3) := by decide +kernel
theorem dX4_putInOrder_27 : decode cX4_putInOrder 27 = .ok (.aload_n 1, 1) := by decide +kernel
theorem dX4_putInOrder_28 : decode cX4_putInOrder 28 = .ok (.getfield 238, 3) := by decide +kernel
theorem dX4_putInOrder_31 : decode cX4_putInOrder 31 = .ok (.if_icmp .gt 9, 3) := by decide +kernel
theorem dX4_putInOrder_34 : decode cX4_putInOrder 34 = .ok (.iinc 2 1, 3) := by decide +kernel
theorem dX4_putInOrder_37 : decode cX4_putInOrder 37 = .ok (.goto (-35), 3) := by decide +kernel
theorem dX4_putInOrder_40 : decode cX4_putInOrder 40 = .ok (.aload_n 0, 1) := by decide +kernel
theorem dX4_putInOrder_41 : decode cX4_putInOrder 41 = .ok (.getfield 25, 3) := by decide +kernel
theorem dX4_putInOrder_44 : decode cX4_putInOrder 44 = .ok (.iload_n 2, 1) := by decide +kernel
theorem dX4_putInOrder_45 : decode cX4_putInOrder 45 = .ok (.aload_n 1, 1) := by decide +kernel
theorem dX4_putInOrder_46 : decode cX4_putInOrder 46 = .ok (.invokevirtual 241, 3) := by decide +kernel
theorem dX4_putInOrder_49 : decode cX4_putInOrder 49 = .ok (.return_, 1) := by decide +kernel
theorem dX4_rateAll_0 : decode cX4_rateAll 0 = .ok (.iconst 0, 1) := by decide +kernel
theorem dX4_rateAll_1 : decode cX4_rateAll 1 = .ok (.istore_n 1, 1) := by decide +kernel
theorem dX4_rateAll_2 : decode cX4_rateAll 2 = .ok (.iload_n 1, 1) := by decide +kernel
theorem dX4_rateAll_3 : decode cX4_rateAll 3 = .ok (.aload_n 0, 1) := by decide +kernel
theorem dX4_rateAll_4 : decode cX4_rateAll 4 = .ok (.getfield 16, 3) := by decide +kernel
theorem dX4_rateAll_7 : decode cX4_rateAll 7 = .ok (.invokevirtual 52, 3) := by decide +kernel
theorem dX4_rateAll_10 : decode cX4_rateAll 10 = .ok (.if_icmp .ge 23, 3) := by decide +kernel
theorem dX4_rateAll_13 : decode cX4_rateAll 13 = .ok (.aload_n 0, 1) := by decide +kernel
theorem dX4_rateAll_14 : decode cX4_rateAll 14 = .ok (.getfield 16, 3) := by decide +kernel
theorem dX4_rateAll_17 : decode cX4_rateAll 17 = .ok (.iload_n 1, 1) := by decide +kernel
theorem dX4_rateAll_18 : decode cX4_rateAll 18 = .ok (.invokevirtual 171, 3) := by decide +kernel
theorem dX4_rateAll_21 : decode cX4_rateAll 21 = .ok (.checkcast 105, 3) := by decide +kernel
theorem dX4_rateAll_24 : decode cX4_rateAll 24 = .ok (.invokevirtual 244, 3) := by decide +kernel
theorem dX4_rateAll_27 : decode cX4_rateAll 27 = .ok (.iinc 1 1, 3) := by decide +kernel
theorem dX4_rateAll_30 : decode cX4_rateAll 30 = .ok (.goto (-28), 3) := by decide +kernel
theorem dX4_rateAll_33 : decode cX4_rateAll 33 = .ok (.iconst 0, 1) := by decide +kernel
theorem dX4_rateAll_34 : decode cX4_rateAll 34 = .ok (.istore_n 1, 1) := by decide +kernel
theorem dX4_rateAll_35 : decode cX4_rateAll 35 = .ok (.iload_n 1, 1) := by decide +kernel
theorem dX4_rateAll_36 : decode cX4_rateAll 36 = .ok (.aload_n 0, 1) := by decide +kernel
theorem dX4_rateAll_37 : decode cX4_rateAll 37 = .ok (.getfield 19, 3) := by decide +kernel
theorem dX4_rateAll_40 : decode cX4_rateAll 40 = .ok (.invokevirtual 52, 3) := by decide +kernel
theorem dX4_rateAll_43 : decode cX4_rateAll 43 = .ok (.if_icmp .ge 23, 3) := by decide +kernel
theorem dX4_rateAll_46 : decode cX4_rateAll 46 = .ok (.aload_n 0, 1) := by decide +kernel
theorem dX4_rateAll_47 : decode cX4_rateAll 47 = .ok (.getfield 19, 3) := by decide +kernel
theorem dX4_rateAll_50 : decode cX4_rateAll 50 = .ok (.iload_n 1, 1) := by decide +kernel
theorem dX4_rateAll_51 : decode cX4_rateAll 51 = .ok (.invokevirtual 171, 3) := by decide +kernel
theorem dX4_rateAll_54 : decode cX4_rateAll 54 = .ok (.checkcast 116, 3) := by decide +kernel
theorem dX4_rateAll_57 : decode cX4_rateAll 57 = .ok (.invokevirtual 247, 3) := by decide +kernel
theorem dX4_rateAll_60 : decode cX4_rateAll 60 = .ok (.iinc 1 1, 3) := by decide +kernel
theorem dX4_rateAll_63 : decode cX4_rateAll 63 = .ok (.goto (-28), 3) := by decide +kernel
theorem dX4_rateAll_66 : decode cX4_rateAll 66 = .ok (.iconst 0, 1) := by decide +kernel
theorem dX4_rateAll_67 : decode cX4_rateAll 67 = .ok (.istore_n 1, 1) := by decide +kernel
theorem dX4_rateAll_68 : decode cX4_rateAll 68 = .ok (.iload_n 1, 1) := by decide +kernel
theorem dX4_rateAll_69 : decode cX4_rateAll 69 = .ok (.aload_n 0, 1) := by decide +kernel
theorem dX4_rateAll_70 : decode cX4_rateAll 70 = .ok (.getfield 25, 3) := by decide +kernel
theorem dX4_rateAll_73 : decode cX4_rateAll 73 = .ok (.invokevirtual 52, 3) := by decide +kernel
theorem dX4_rateAll_76 : decode cX4_rateAll 76 = .ok (.if_icmp .ge 37, 3) := by decide +kernel
theorem dX4_rateAll_79 : decode cX4_rateAll 79 = .ok (.aload_n 0, 1) := by decide +kernel
theorem dX4_rateAll_80 : decode cX4_rateAll 80 = .ok (.getfield 25, 3) := by decide +kernel
theorem dX4_rateAll_83 : decode cX4_rateAll 83 = .ok (.iload_n 1, 1) := by decide +kernel
theorem dX4_rateAll_84 : decode cX4_rateAll 84 = .ok (.invokevirtual 171, 3) := by decide +kernel
theorem dX4_rateAll_87 : decode cX4_rateAll 87 = .ok (.checkcast 148, 3) := by decide +kernel
theorem dX4_rateAll_90 : decode cX4_rateAll 90 = .ok (.astore_n 2, 1) := by decide +kernel
theorem dX4_rateAll_91 : decode cX4_rateAll 91 = .ok (.aload_n 2, 1) := by decide +kernel
theorem dX4_rateAll_92 : decode cX4_rateAll 92 = .ok (.invokevirtual 248, 3) := by decide +kernel
theorem dX4_rateAll_95 : decode cX4_rateAll 95 = .ok (.aload_n 2, 1) := by decide +kernel
theorem dX4_rateAll_96 : decode cX4_rateAll 96 = .ok (.getfield 163, 3) := by decide +kernel
theorem dX4_rateAll_99 : decode cX4_rateAll 99 = .ok (.ifCond .le 8, 3) := by decide +kernel
theorem dX4_rateAll_102 : decode cX4_rateAll 102 = .ok (.aload_n 0, 1) := by decide +kernel
theorem dX4_rateAll_103 : decode cX4_rateAll 103 = .ok (.aload_n 2, 1) := by decide +kernel
theorem dX4_rateAll_104 : decode cX4_rateAll 104 = .ok (.invokevirtual 249, 3) := by decide +kernel
theorem dX4_rateAll_107 : decode cX4_rateAll 107 = .ok (.iinc 1 1, 3) := by decide +kernel
theorem dX4_rateAll_110 : decode cX4_rateAll 110 = .ok (.goto (-42), 3) := by decide +kernel
theorem dX4_rateAll_113 : decode cX4_rateAll 113 = .ok (.return_, 1) := by decide +kernel
theorem dX4_rate_0 : decode cX4_rate 0 = .ok (.aload_n 1, 1) := by decide +kernel
theorem dX4_rate_1 : decode cX4_rate 1 = .ok (.getfield 252, 3) := by decide +kernel
theorem dX4_rate_4 : decode cX4_rate 4 = .ok (.astore_n 2, 1) := by decide +kernel
theorem dX4_rate_5 : decode cX4_rate 5 = .ok (.aload_n 2, 1) := by decide +kernel
theorem dX4_rate_6 : decode cX4_rate 6 = .ok (.getfield 125, 3) := by decide +kernel
theorem dX4_rate_9 : decode cX4_rate 9 = .ok (.astore_n 3, 1) := by decide +kernel
theorem dX4_rate_10 : decode cX4_rate 10 = .ok (.aload_n 1, 1) := by decide +kernel
theorem dX4_rate_11 : decode cX4_rate 11 = .ok (.aload_n 3, 1) := by decide +kernel
theorem dX4_rate_12 : decode cX4_rate 12 = .ok (.aload_n 1, 1) := by decide +kernel
theorem dX4_rate_13 : decode cX4_rate 13 = .ok (.getfield 163, 3) := by decide +kernel
theorem dX4_rate_16 : decode cX4_rate 16 = .ok (.invokevirtual 256, 3) := by decide +kernel
theorem dX4_rate_19 : decode cX4_rate 19 = .ok (.putfield 217, 3) := by decide +kernel
theorem dX4_rate_22 : decode cX4_rate 22 = .ok (.aload_n 1, 1) := by decide +kernel
theorem dX4_rate_23 : decode cX4_rate 23 = .ok (.getfield 259, 3) := by decide +kernel
theorem dX4_rate_26 : decode cX4_rate 26 = .ok (.ifCond .ne 39, 3) := by decide +kernel
theorem dX4_rate_29 : decode cX4_rate 29 = .ok (.aload_n 1, 1) := by decide +kernel
theorem dX4_rate_30 : decode cX4_rate 30 = .ok (.aload_n 2, 1) := by decide +kernel
theorem dX4_rate_31 : decode cX4_rate 31 = .ok (.getfield 210, 3) := by decide +kernel
theorem dX4_rate_34 : decode cX4_rate 34 = .ok (.aload_n 1, 1) := by decide +kernel
theorem dX4_rate_35 : decode cX4_rate 35 = .ok (.invokevirtual 262, 3) := by decide +kernel
theorem dX4_rate_38 : decode cX4_rate 38 = .ok (.putfield 214, 3) := by decide +kernel
theorem dX4_rate_41 : decode cX4_rate 41 = .ok (.aload_n 0, 1) := by decide +kernel
theorem dX4_rate_42 : decode cX4_rate 42 = .ok (.aload_n 1, 1) := by decide +kernel
theorem dX4_rate_43 : decode cX4_rate 43 = .ok (.invokevirtual 176, 3) := by decide +kernel
theorem dX4_rate_46 : decode cX4_rate 46 = .ok (.ifCond .eq 10, 3) := by decide +kernel
theorem dX4_rate_49 : decode cX4_rate 49 = .ok (.aload_n 3, 1) := by decide +kernel
theorem dX4_rate_50 : decode cX4_rate 50 = .ok (.getfield 266, 3) := by decide +kernel
theorem dX4_rate_53 : decode cX4_rate 53 = .ok (.goto 7, 3) := by decide +kernel
theorem dX4_rate_56 : decode cX4_rate 56 = .ok (.aload_n 3, 1) := by decide +kernel
theorem dX4_rate_57 : decode cX4_rate 57 = .ok (.getfield 269, 3) := by decide +kernel
theorem dX4_rate_60 : decode cX4_rate 60 = .ok (.istore 4, 2) := by decide +kernel
theorem dX4_rate_62 : decode cX4_rate 62 = .ok (.goto 18, 3) := by decide +kernel
theorem dX4_rate_65 : decode cX4_rate 65 = .ok (.aload_n 1, 1) := by decide +kernel
theorem dX4_rate_66 : decode cX4_rate 66 = .ok (.invokestatic 272, 3) := by decide +kernel
theorem dX4_rate_69 : decode cX4_rate 69 = .ok (.aload_n 3, 1) := by decide +kernel
theorem dX4_rate_70 : decode cX4_rate 70 = .ok (.getfield 80, 3) := by decide +kernel
theorem dX4_rate_73 : decode cX4_rate 73 = .ok (.aload_n 1, 1) := by decide +kernel
theorem dX4_rate_74 : decode cX4_rate 74 = .ok (.getfield 259, 3) := by decide +kernel
theorem dX4_rate_77 : decode cX4_rate 77 = .ok (.iaload, 1) := by decide +kernel
theorem dX4_rate_78 : decode cX4_rate 78 = .ok (.istore 4, 2) := by decide +kernel
theorem dX4_rate_80 : decode cX4_rate 80 = .ok (.aload_n 1, 1) := by decide +kernel
theorem dX4_rate_81 : decode cX4_rate 81 = .ok (.aload_n 1, 1) := by decide +kernel
theorem dX4_rate_82 : decode cX4_rate 82 = .ok (.getfield 275, 3) := by decide +kernel
theorem dX4_rate_85 : decode cX4_rate 85 = .ok (.aload_n 3, 1) := by decide +kernel
theorem dX4_rate_86 : decode cX4_rate 86 = .ok (.aload_n 1, 1) := by decide +kernel
theorem dX4_rate_87 : decode cX4_rate 87 = .ok (.getfield 217, 3) := by decide +kernel
theorem dX4_rate_90 : decode cX4_rate 90 = .ok (.aload_n 1, 1) := by decide +kernel
theorem dX4_rate_91 : decode cX4_rate 91 = .ok (.getfield 214, 3) := by decide +kernel
theorem dX4_rate_94 : decode cX4_rate 94 = .ok (.isub, 1) := by decide +kernel
theorem dX4_rate_95 : decode cX4_rate 95 = .ok (.iload 4, 2) := by decide +kernel
theorem dX4_rate_97 : decode cX4_rate 97 = .ok (.invokevirtual 278, 3) := by decide +kernel
theorem dX4_rate_100 : decode cX4_rate 100 = .ok (.iadd, 1) := by decide +kernel
theorem dX4_rate_101 : decode cX4_rate 101 = .ok (.putfield 186, 3) := by decide +kernel
theorem dX4_rate_104 : decode cX4_rate 104 = .ok (.aload_n 2, 1) := by decide +kernel
theorem dX4_rate_105 : decode cX4_rate 105 = .ok (.dup, 1) := by decide +kernel
theorem dX4_rate_106 : decode cX4_rate 106 = .ok (.getfield 189, 3) := by decide +kernel
theorem dX4_rate_109 : decode cX4_rate 109 = .ok (.aload_n 1, 1) := by decide +kernel
theorem dX4_rate_110 : decode cX4_rate 110 = .ok (.getfield 186, 3) := by decide +kernel
theorem dX4_rate_113 : decode cX4_rate 113 = .ok (.iadd, 1) := by decide +kernel
theorem dX4_rate_114 : decode cX4_rate 114 = .ok (.putfield 189, 3) := by decide +kernel
theorem dX4_rate_117 : decode cX4_rate 117 = .ok (.aload_n 2, 1) := by decide +kernel
theorem dX4_rate_118 : decode cX4_rate 118 = .ok (.getfield 210, 3) := by decide +kernel
theorem dX4_rate_121 : decode cX4_rate 121 = .ok (.dup, 1) := by decide +kernel
theorem dX4_rate_122 : decode cX4_rate 122 = .ok (.getfield 197, 3) := by decide +kernel
theorem dX4_rate_125 : decode cX4_rate 125 = .ok (.aload_n 1, 1) := by decide +kernel
theorem dX4_rate_126 : decode cX4_rate 126 = .ok (.getfield 186, 3) := by decide +kernel
theorem dX4_rate_129 : decode cX4_rate 129 = .ok (.iadd, 1) := by decide +kernel
theorem dX4_rate_130 : decode cX4_rate 130 = .ok (.putfield 197, 3) := by decide +kernel
theorem dX4_rate_133 : decode cX4_rate 133 = .ok (.return_, 1) := by decide +kernel
theorem dX4_rateDayFee_0 : decode cX4_rateDayFee 0 = .ok (.aload_n 0, 1) := by decide +kernel
theorem dX4_rateDayFee_1 : decode cX4_rateDayFee 1 = .ok (.getfield 252, 3) := by decide +kernel
theorem dX4_rateDayFee_4 : decode cX4_rateDayFee 4 = .ok (.astore_n 1, 1) := by decide +kernel
theorem dX4_rateDayFee_5 : decode cX4_rateDayFee 5 = .ok (.aload_n 0, 1) := by decide +kernel
theorem dX4_rateDayFee_6 : decode cX4_rateDayFee 6 = .ok (.getfield 259, 3) := by decide +kernel
theorem dX4_rateDayFee_9 : decode cX4_rateDayFee 9 = .ok (.istore_n 2, 1) := by decide +kernel
theorem dX4_rateDayFee_10 : decode cX4_rateDayFee 10 = .ok (.aload_n 1, 1) := by decide +kernel
theorem dX4_rateDayFee_11 : decode cX4_rateDayFee 11 = .ok (.getfield 125, 3) := by decide +kernel
theorem dX4_rateDayFee_14 : decode cX4_rateDayFee 14 = .ok (.getfield 84, 3) := by decide +kernel
theorem dX4_rateDayFee_17 : decode cX4_rateDayFee 17 = .ok (.iload_n 2, 1) := by decide +kernel
theorem dX4_rateDayFee_18 : decode cX4_rateDayFee 18 = .ok (.iaload, 1) := by decide +kernel
theorem dX4_rateDayFee_19 : decode cX4_rateDayFee 19 = .ok (.istore_n 3, 1) := by decide +kernel
theorem dX4_rateDayFee_20 : decode cX4_rateDayFee 20 = .ok (.iload_n 3, 1) := by decide +kernel
theorem dX4_rateDayFee_21 : decode cX4_rateDayFee 21 = .ok (.ifCond .ne 4, 3) := by decide +kernel
theorem dX4_rateDayFee_24 : decode cX4_rateDayFee 24 = .ok (.return_, 1) := by decide +kernel
theorem dX4_rateDayFee_25 : decode cX4_rateDayFee 25 = .ok (.aload_n 1, 1) := by decide +kernel
theorem dX4_rateDayFee_26 : decode cX4_rateDayFee 26 = .ok (.iload_n 2, 1) := by decide +kernel
theorem dX4_rateDayFee_27 : decode cX4_rateDayFee 27 = .ok (.aload_n 0, 1) := by decide +kernel
theorem dX4_rateDayFee_28 : decode cX4_rateDayFee 28 = .ok (.invokevirtual 194, 3) := by decide +kernel
theorem dX4_rateDayFee_31 : decode cX4_rateDayFee 31 = .ok (.invokevirtual 282, 3) := by decide +kernel
theorem dX4_rateDayFee_34 : decode cX4_rateDayFee 34 = .ok (.ifCond .eq 8, 3) := by decide +kernel
theorem dX4_rateDayFee_37 : decode cX4_rateDayFee 37 = .ok (.aload_n 0, 1) := by decide +kernel
theorem dX4_rateDayFee_38 : decode cX4_rateDayFee 38 = .ok (.iload_n 3, 1) := by decide +kernel
theorem dX4_rateDayFee_39 : decode cX4_rateDayFee 39 = .ok (.putfield 275, 3) := by decide +kernel
theorem dX4_rateDayFee_42 : decode cX4_rateDayFee 42 = .ok (.aload_n 0, 1) := by decide +kernel
theorem dX4_rateDayFee_43 : decode cX4_rateDayFee 43 = .ok (.aload_n 1, 1) := by decide +kernel
theorem dX4_rateDayFee_44 : decode cX4_rateDayFee 44 = .ok (.iload_n 2, 1) := by decide +kernel
theorem dX4_rateDayFee_45 : decode cX4_rateDayFee 45 = .ok (.aload_n 0, 1) := by decide +kernel
theorem dX4_rateDayFee_46 : decode cX4_rateDayFee 46 = .ok (.getfield 217, 3) := by decide +kernel
theorem dX4_rateDayFee_49 : decode cX4_rateDayFee 49 = .ok (.invokevirtual 286, 3) := by decide +kernel
theorem dX4_rateDayFee_52 : decode cX4_rateDayFee 52 = .ok (.putfield 214, 3) := by decide +kernel
theorem dX4_rateDayFee_55 : decode cX4_rateDayFee 55 = .ok (.return_, 1) := by decide +kernel
theorem dX4_beginsInPeak_0 : decode cX4_beginsInPeak 0 = .ok (.aload_n 1, 1) := by decide +kernel
theorem dX4_beginsInPeak_1 : decode cX4_beginsInPeak 1 = .ok (.getfield 238, 3) := by decide +kernel
theorem dX4_beginsInPeak_4 : decode cX4_beginsInPeak 4 = .ok (.sipush 1440, 3) := by decide +kernel
theorem dX4_beginsInPeak_7 : decode cX4_beginsInPeak 7 = .ok (.irem, 1) := by decide +kernel
theorem dX4_beginsInPeak_8 : decode cX4_beginsInPeak 8 = .ok (.istore_n 2, 1) := by decide +kernel
theorem dX4_beginsInPeak_9 : decode cX4_beginsInPeak 9 = .ok (.aload_n 1, 1) := by decide +kernel
theorem dX4_beginsInPeak_10 : decode cX4_beginsInPeak 10 = .ok (.invokevirtual 194, 3) := by decide +kernel
theorem dX4_beginsInPeak_13 : decode cX4_beginsInPeak 13 = .ok (.bipush 7, 2) := by decide +kernel
theorem dX4_beginsInPeak_15 : decode cX4_beginsInPeak 15 = .ok (.irem, 1) := by decide +kernel
theorem dX4_beginsInPeak_16 : decode cX4_beginsInPeak 16 = .ok (.iconst 5, 1) := by decide +kernel
theorem dX4_beginsInPeak_17 : decode cX4_beginsInPeak 17 = .ok (.if_icmp .lt 7, 3) := by decide +kernel
theorem dX4_beginsInPeak_20 : decode cX4_beginsInPeak 20 = .ok (.iconst 1, 1) := by decide +kernel
theorem dX4_beginsInPeak_21 : decode cX4_beginsInPeak 21 = .ok (.goto 4, 3) := by decide +kernel
theorem dX4_beginsInPeak_24 : decode cX4_beginsInPeak 24 = .ok (.iconst 0, 1) := by decide +kernel
theorem dX4_beginsInPeak_25 : decode cX4_beginsInPeak 25 = .ok (.istore_n 3, 1) := by decide +kernel
theorem dX4_beginsInPeak_26 : decode cX4_beginsInPeak 26 = .ok (.iload_n 3, 1) := by decide +kernel
theorem dX4_beginsInPeak_27 : decode cX4_beginsInPeak 27 = .ok (.ifCond .ne 22, 3) := by decide +kernel
theorem dX4_beginsInPeak_30 : decode cX4_beginsInPeak 30 = .ok (.iload_n 2, 1) := by decide +kernel
theorem dX4_beginsInPeak_31 : decode cX4_beginsInPeak 31 = .ok (.aload_n 0, 1) := by decide +kernel
theorem dX4_beginsInPeak_32 : decode cX4_beginsInPeak 32 = .ok (.getfield 28, 3) := by decide +kernel
theorem dX4_beginsInPeak_35 : decode cX4_beginsInPeak 35 = .ok (.aload_n 0, 1) := by decide +kernel
theorem dX4_beginsInPeak_36 : decode cX4_beginsInPeak 36 = .ok (.getfield 32, 3) := by decide +kernel
theorem dX4_beginsInPeak_39 : decode cX4_beginsInPeak 39 = .ok (.invokestatic 46, 3) := by decide +kernel
theorem dX4_beginsInPeak_42 : decode cX4_beginsInPeak 42 = .ok (.ifCond .eq 7, 3) := by decide +kernel
theorem dX4_beginsInPeak_45 : decode cX4_beginsInPeak 45 = .ok (.iconst 1, 1) := by decide +kernel
theorem dX4_beginsInPeak_46 : decode cX4_beginsInPeak 46 = .ok (.goto 4, 3) := by decide +kernel
theorem dX4_beginsInPeak_49 : decode cX4_beginsInPeak 49 = .ok (.iconst 0, 1) := by decide +kernel
theorem dX4_beginsInPeak_50 : decode cX4_beginsInPeak 50 = .ok (.ireturn, 1) := by decide +kernel
theorem dX4_findTariff_0 : decode cX4_findTariff 0 = .ok (.iload_n 1, 1) := by decide +kernel
theorem dX4_findTariff_1 : decode cX4_findTariff 1 = .ok (.ifCond .lt 14, 3) := by decide +kernel
theorem dX4_findTariff_4 : decode cX4_findTariff 4 = .ok (.iload_n 1, 1) := by decide +kernel
theorem dX4_findTariff_5 : decode cX4_findTariff 5 = .ok (.aload_n 0, 1) := by decide +kernel
theorem dX4_findTariff_6 : decode cX4_findTariff 6 = .ok (.getfield 10, 3) := by decide +kernel
theorem dX4_findTariff_9 : decode cX4_findTariff 9 = .ok (.invokevirtual 52, 3) := by decide +kernel
theorem dX4_findTariff_12 : decode cX4_findTariff 12 = .ok (.if_icmp .lt 14, 3) := by decide +kernel
theorem dX4_findTariff_15 : decode cX4_findTariff 15 = .ok (.new 166, 3) := by decide +kernel
theorem dX4_findTariff_18 : decode cX4_findTariff 18 = .ok (.dup, 1) := by decide +kernel
theorem dX4_findTariff_19 : decode cX4_findTariff 19 = .ok (.ldc_w 289, 3) := by decide +kernel
theorem dX4_findTariff_22 : decode cX4_findTariff 22 = .ok (.invokespecial 170, 3) := by decide +kernel
theorem dX4_findTariff_25 : decode cX4_findTariff 25 = .ok (.athrow, 1) := by decide +kernel
theorem dX4_findTariff_26 : decode cX4_findTariff 26 = .ok (.aload_n 0, 1) := by decide +kernel
theorem dX4_findTariff_27 : decode cX4_findTariff 27 = .ok (.getfield 10, 3) := by decide +kernel
theorem dX4_findTariff_30 : decode cX4_findTariff 30 = .ok (.iload_n 1, 1) := by decide +kernel
theorem dX4_findTariff_31 : decode cX4_findTariff 31 = .ok (.invokevirtual 171, 3) := by decide +kernel
theorem dX4_findTariff_34 : decode cX4_findTariff 34 = .ok (.checkcast 61, 3) := by decide +kernel
theorem dX4_findTariff_37 : decode cX4_findTariff 37 = .ok (.areturn, 1) := by decide +kernel
theorem dX4_findAccount_0 : decode cX4_findAccount 0 = .ok (.iload_n 1, 1) := by decide +kernel
theorem dX4_findAccount_1 : decode cX4_findAccount 1 = .ok (.ifCond .lt 14, 3) := by decide +kernel
theorem dX4_findAccount_4 : decode cX4_findAccount 4 = .ok (.iload_n 1, 1) := by decide +kernel
theorem dX4_findAccount_5 : decode cX4_findAccount 5 = .ok (.aload_n 0, 1) := by decide +kernel
theorem dX4_findAccount_6 : decode cX4_findAccount 6 = .ok (.getfield 16, 3) := by decide +kernel
theorem dX4_findAccount_9 : decode cX4_findAccount 9 = .ok (.invokevirtual 52, 3) := by decide +kernel
theorem dX4_findAccount_12 : decode cX4_findAccount 12 = .ok (.if_icmp .lt 14, 3) := by decide +kernel
theorem dX4_findAccount_15 : decode cX4_findAccount 15 = .ok (.new 166, 3) := by decide +kernel
theorem dX4_findAccount_18 : decode cX4_findAccount 18 = .ok (.dup, 1) := by decide +kernel
theorem dX4_findAccount_19 : decode cX4_findAccount 19 = .ok (.ldc_w 291, 3) := by decide +kernel
theorem dX4_findAccount_22 : decode cX4_findAccount 22 = .ok (.invokespecial 170, 3) := by decide +kernel
theorem dX4_findAccount_25 : decode cX4_findAccount 25 = .ok (.athrow, 1) := by decide +kernel
theorem dX4_findAccount_26 : decode cX4_findAccount 26 = .ok (.aload_n 0, 1) := by decide +kernel
theorem dX4_findAccount_27 : decode cX4_findAccount 27 = .ok (.getfield 16, 3) := by decide +kernel
theorem dX4_findAccount_30 : decode cX4_findAccount 30 = .ok (.iload_n 1, 1) := by decide +kernel
theorem dX4_findAccount_31 : decode cX4_findAccount 31 = .ok (.invokevirtual 171, 3) := by decide +kernel
theorem dX4_findAccount_34 : decode cX4_findAccount 34 = .ok (.checkcast 105, 3) := by decide +kernel
theorem dX4_findAccount_37 : decode cX4_findAccount 37 = .ok (.areturn, 1) := by decide +kernel
theorem dX4_findLine_0 : decode cX4_findLine 0 = .ok (.iload_n 1, 1) := by decide +kernel
theorem dX4_findLine_1 : decode cX4_findLine 1 = .ok (.ifCond .lt 14, 3) := by decide +kernel
theorem dX4_findLine_4 : decode cX4_findLine 4 = .ok (.iload_n 1, 1) := by decide +kernel
theorem dX4_findLine_5 : decode cX4_findLine 5 = .ok (.aload_n 0, 1) := by decide +kernel
theorem dX4_findLine_6 : decode cX4_findLine 6 = .ok (.getfield 19, 3) := by decide +kernel
theorem dX4_findLine_9 : decode cX4_findLine 9 = .ok (.invokevirtual 52, 3) := by decide +kernel
theorem dX4_findLine_12 : decode cX4_findLine 12 = .ok (.if_icmp .lt 14, 3) := by decide +kernel
theorem dX4_findLine_15 : decode cX4_findLine 15 = .ok (.new 166, 3) := by decide +kernel
theorem dX4_findLine_18 : decode cX4_findLine 18 = .ok (.dup, 1) := by decide +kernel
theorem dX4_findLine_19 : decode cX4_findLine 19 = .ok (.ldc_w 293, 3) := by decide +kernel
theorem dX4_findLine_22 : decode cX4_findLine 22 = .ok (.invokespecial 170, 3) := by decide +kernel
theorem dX4_findLine_25 : decode cX4_findLine 25 = .ok (.athrow, 1) := by decide +kernel
theorem dX4_findLine_26 : decode cX4_findLine 26 = .ok (.aload_n 0, 1) := by decide +kernel
theorem dX4_findLine_27 : decode cX4_findLine 27 = .ok (.getfield 19, 3) := by decide +kernel
theorem dX4_findLine_30 : decode cX4_findLine 30 = .ok (.iload_n 1, 1) := by decide +kernel
theorem dX4_findLine_31 : decode cX4_findLine 31 = .ok (.invokevirtual 171, 3) := by decide +kernel
theorem dX4_findLine_34 : decode cX4_findLine 34 = .ok (.checkcast 116, 3) := by decide +kernel
theorem dX4_findLine_37 : decode cX4_findLine 37 = .ok (.areturn, 1) := by decide +kernel
theorem dX4_findCall_0 : decode cX4_findCall 0 = .ok (.iload_n 1, 1) := by decide +kernel
theorem dX4_findCall_1 : decode cX4_findCall 1 = .ok (.ifCond .lt 14, 3) := by decide +kernel
theorem dX4_findCall_4 : decode cX4_findCall 4 = .ok (.iload_n 1, 1) := by decide +kernel
theorem dX4_findCall_5 : decode cX4_findCall 5 = .ok (.aload_n 0, 1) := by decide +kernel
theorem dX4_findCall_6 : decode cX4_findCall 6 = .ok (.getfield 22, 3) := by decide +kernel
theorem dX4_findCall_9 : decode cX4_findCall 9 = .ok (.invokevirtual 52, 3) := by decide +kernel
theorem dX4_findCall_12 : decode cX4_findCall 12 = .ok (.if_icmp .lt 14, 3) := by decide +kernel
theorem dX4_findCall_15 : decode cX4_findCall 15 = .ok (.new 166, 3) := by decide +kernel
theorem dX4_findCall_18 : decode cX4_findCall 18 = .ok (.dup, 1) := by decide +kernel
theorem dX4_findCall_19 : decode cX4_findCall 19 = .ok (.ldc_w 295, 3) := by decide +kernel
theorem dX4_findCall_22 : decode cX4_findCall 22 = .ok (.invokespecial 170, 3) := by decide +kernel
theorem dX4_findCall_25 : decode cX4_findCall 25 = .ok (.athrow, 1) := by decide +kernel
theorem dX4_findCall_26 : decode cX4_findCall 26 = .ok (.aload_n 0, 1) := by decide +kernel
theorem dX4_findCall_27 : decode cX4_findCall 27 = .ok (.getfield 22, 3) := by decide +kernel
theorem dX4_findCall_30 : decode cX4_findCall 30 = .ok (.iload_n 1, 1) := by decide +kernel
theorem dX4_findCall_31 : decode cX4_findCall 31 = .ok (.invokevirtual 171, 3) := by decide +kernel
theorem dX4_findCall_34 : decode cX4_findCall 34 = .ok (.checkcast 148, 3) := by decide +kernel
theorem dX4_findCall_37 : decode cX4_findCall 37 = .ok (.areturn, 1) := by decide +kernel
theorem dX4_checkAbroad_0 : decode cX4_checkAbroad 0 = .ok (.iload_n 0, 1) := by decide +kernel
theorem dX4_checkAbroad_1 : decode cX4_checkAbroad 1 = .ok (.iconst 1, 1) := by decide +kernel
theorem dX4_checkAbroad_2 : decode cX4_checkAbroad 2 = .ok (.iconst 2, 1) := by decide +kernel
theorem dX4_checkAbroad_3 : decode cX4_checkAbroad 3 = .ok (.invokestatic 46, 3) := by decide +kernel
theorem dX4_checkAbroad_6 : decode cX4_checkAbroad 6 = .ok (.ifCond .ne 14, 3) := by decide +kernel
theorem dX4_checkAbroad_9 : decode cX4_checkAbroad 9 = .ok (.new 166, 3) := by decide +kernel
theorem dX4_checkAbroad_12 : decode cX4_checkAbroad 12 = .ok (.dup, 1) := by decide +kernel
theorem dX4_checkAbroad_13 : decode cX4_checkAbroad 13 = .ok (.ldc_w 297, 3) := by decide +kernel
theorem dX4_checkAbroad_16 : decode cX4_checkAbroad 16 = .ok (.invokespecial 170, 3) := by decide +kernel
theorem dX4_checkAbroad_19 : decode cX4_checkAbroad 19 = .ok (.athrow, 1) := by decide +kernel
theorem dX4_checkAbroad_20 : decode cX4_checkAbroad 20 = .ok (.return_, 1) := by decide +kernel
theorem dX4_checkBundle_0 : decode cX4_checkBundle 0 = .ok (.iload_n 0, 1) := by decide +kernel
theorem dX4_checkBundle_1 : decode cX4_checkBundle 1 = .ok (.iconst 0, 1) := by decide +kernel
theorem dX4_checkBundle_2 : decode cX4_checkBundle 2 = .ok (.ldc_w 299, 3) := by decide +kernel
theorem dX4_checkBundle_5 : decode cX4_checkBundle 5 = .ok (.invokestatic 46, 3) := by decide +kernel
theorem dX4_checkBundle_8 : decode cX4_checkBundle 8 = .ok (.ifCond .ne 14, 3) := by decide +kernel
theorem dX4_checkBundle_11 : decode cX4_checkBundle 11 = .ok (.new 39, 3) := by decide +kernel
theorem dX4_checkBundle_14 : decode cX4_checkBundle 14 = .ok (.dup, 1) := by decide +kernel
theorem dX4_checkBundle_15 : decode cX4_checkBundle 15 = .ok (.ldc_w 300, 3) := by decide +kernel
theorem dX4_checkBundle_18 : decode cX4_checkBundle 18 = .ok (.invokespecial 43, 3) := by decide +kernel
theorem dX4_checkBundle_21 : decode cX4_checkBundle 21 = .ok (.athrow, 1) := by decide +kernel
theorem dX4_checkBundle_22 : decode cX4_checkBundle 22 = .ok (.return_, 1) := by decide +kernel
theorem dX4_isMoney_0 : decode cX4_isMoney 0 = .ok (.iload_n 0, 1) := by decide +kernel
theorem dX4_isMoney_1 : decode cX4_isMoney 1 = .ok (.iconst 0, 1) := by decide +kernel
theorem dX4_isMoney_2 : decode cX4_isMoney 2 = .ok (.sipush 10000, 3) := by decide +kernel
theorem dX4_isMoney_5 : decode cX4_isMoney 5 = .ok (.invokestatic 46, 3) := by decide +kernel
theorem dX4_isMoney_8 : decode cX4_isMoney 8 = .ok (.ireturn, 1) := by decide +kernel
theorem dX4_isWithin_0 : decode cX4_isWithin 0 = .ok (.iload_n 0, 1) := by decide +kernel
theorem dX4_isWithin_1 : decode cX4_isWithin 1 = .ok (.iload_n 1, 1) := by decide +kernel
theorem dX4_isWithin_2 : decode cX4_isWithin 2 = .ok (.if_icmp .lt 12, 3) := by decide +kernel
theorem dX4_isWithin_5 : decode cX4_isWithin 5 = .ok (.iload_n 0, 1) := by decide +kernel
theorem dX4_isWithin_6 : decode cX4_isWithin 6 = .ok (.iload_n 2, 1) := by decide +kernel
theorem dX4_isWithin_7 : decode cX4_isWithin 7 = .ok (.if_icmp .gt 7, 3) := by decide +kernel
theorem dX4_isWithin_10 : decode cX4_isWithin 10 = .ok (.iconst 1, 1) := by decide +kernel
theorem dX4_isWithin_11 : decode cX4_isWithin 11 = .ok (.goto 4, 3) := by decide +kernel
theorem dX4_isWithin_14 : decode cX4_isWithin 14 = .ok (.iconst 0, 1) := by decide +kernel
theorem dX4_isWithin_15 : decode cX4_isWithin 15 = .ok (.ireturn, 1) := by decide +kernel
theorem dJx4a65c_init_da8c8_0 : decode cJx4a65c_init_da8c8 0 = .ok (.aload_n 0, 1) := by decide +kernel
theorem dJx4a65c_init_da8c8_1 : decode cJx4a65c_init_da8c8 1 = .ok (.invokespecial 1, 3) := by decide +kernel
theorem dJx4a65c_init_da8c8_4 : decode cJx4a65c_init_da8c8 4 = .ok (.aload_n 0, 1) := by decide +kernel
theorem dJx4a65c_init_da8c8_5 : decode cJx4a65c_init_da8c8 5 = .ok (.getstatic 39, 3) := by decide +kernel
theorem dJx4a65c_init_da8c8_8 : decode cJx4a65c_init_da8c8 8 = .ok (.putfield 9, 3) := by decide +kernel
theorem dJx4a65c_init_da8c8_11 : decode cJx4a65c_init_da8c8 11 = .ok (.return_, 1) := by decide +kernel
theorem dJx4a65c_grow_92f84_0 : decode cJx4a65c_grow_92f84 0 = .ok (.aload_n 0, 1) := by decide +kernel
theorem dJx4a65c_grow_92f84_1 : decode cJx4a65c_grow_92f84 1 = .ok (.getfield 9, 3) := by decide +kernel
theorem dJx4a65c_grow_92f84_4 : decode cJx4a65c_grow_92f84 4 = .ok (.arraylength, 1) := by decide +kernel
theorem dJx4a65c_grow_92f84_5 : decode cJx4a65c_grow_92f84 5 = .ok (.istore_n 2, 1) := by decide +kernel
theorem dJx4a65c_grow_92f84_6 : decode cJx4a65c_grow_92f84 6 = .ok (.iload_n 2, 1) := by decide +kernel
theorem dJx4a65c_grow_92f84_7 : decode cJx4a65c_grow_92f84 7 = .ok (.ifCond .gt 13, 3) := by decide +kernel
theorem dJx4a65c_grow_92f84_10 : decode cJx4a65c_grow_92f84 10 = .ok (.aload_n 0, 1) := by decide +kernel
theorem dJx4a65c_grow_92f84_11 : decode cJx4a65c_grow_92f84 11 = .ok (.getfield 9, 3) := by decide +kernel
theorem dJx4a65c_grow_92f84_14 : decode cJx4a65c_grow_92f84 14 = .ok (.getstatic 39, 3) := by decide +kernel
theorem dJx4a65c_grow_92f84_17 : decode cJx4a65c_grow_92f84 17 = .ok (.if_acmp .eq 28, 3) := by decide +kernel
theorem dJx4a65c_grow_92f84_20 : decode cJx4a65c_grow_92f84 20 = .ok (.iload_n 2, 1) := by decide +kernel
theorem dJx4a65c_grow_92f84_21 : decode cJx4a65c_grow_92f84 21 = .ok (.iload_n 1, 1) := by decide +kernel
theorem dJx4a65c_grow_92f84_22 : decode cJx4a65c_grow_92f84 22 = .ok (.iload_n 2, 1) := by decide +kernel
theorem dJx4a65c_grow_92f84_23 : decode cJx4a65c_grow_92f84 23 = .ok (.isub, 1) := by decide +kernel
theorem dJx4a65c_grow_92f84_24 : decode cJx4a65c_grow_92f84 24 = .ok (.iload_n 2, 1) := by decide +kernel
theorem dJx4a65c_grow_92f84_25 : decode cJx4a65c_grow_92f84 25 = .ok (.iconst 1, 1) := by decide +kernel
theorem dJx4a65c_grow_92f84_26 : decode cJx4a65c_grow_92f84 26 = .ok (.ishr, 1) := by decide +kernel
theorem dJx4a65c_grow_92f84_27 : decode cJx4a65c_grow_92f84 27 = .ok (.invokestatic 73, 3) := by decide +kernel
theorem dJx4a65c_grow_92f84_30 : decode cJx4a65c_grow_92f84 30 = .ok (.istore_n 3, 1) := by decide +kernel
theorem dJx4a65c_grow_92f84_31 : decode cJx4a65c_grow_92f84 31 = .ok (.aload_n 0, 1) := by decide +kernel
theorem dJx4a65c_grow_92f84_32 : decode cJx4a65c_grow_92f84 32 = .ok (.aload_n 0, 1) := by decide +kernel
theorem dJx4a65c_grow_92f84_33 : decode cJx4a65c_grow_92f84 33 = .ok (.getfield 9, 3) := by decide +kernel
theorem dJx4a65c_grow_92f84_36 : decode cJx4a65c_grow_92f84 36 = .ok (.iload_n 3, 1) := by decide +kernel
theorem dJx4a65c_grow_92f84_37 : decode cJx4a65c_grow_92f84 37 = .ok (.invokestatic 66, 3) := by decide +kernel
theorem dJx4a65c_grow_92f84_40 : decode cJx4a65c_grow_92f84 40 = .ok (.dup_x1, 1) := by decide +kernel
theorem dJx4a65c_grow_92f84_41 : decode cJx4a65c_grow_92f84 41 = .ok (.putfield 9, 3) := by decide +kernel
theorem dJx4a65c_grow_92f84_44 : decode cJx4a65c_grow_92f84 44 = .ok (.areturn, 1) := by decide +kernel
theorem dJx4a65c_grow_92f84_45 : decode cJx4a65c_grow_92f84 45 = .ok (.aload_n 0, 1) := by decide +kernel
theorem dJx4a65c_grow_92f84_46 : decode cJx4a65c_grow_92f84 46 = .ok (.bipush 10, 2) := by decide +kernel
theorem dJx4a65c_grow_92f84_48 : decode cJx4a65c_grow_92f84 48 = .ok (.iload_n 1, 1) := by decide +kernel
theorem dJx4a65c_grow_92f84_49 : decode cJx4a65c_grow_92f84 49 = .ok (.invokestatic 79, 3) := by decide +kernel
theorem dJx4a65c_grow_92f84_52 : decode cJx4a65c_grow_92f84 52 = .ok (.anewarray 7, 3) := by decide +kernel
theorem dJx4a65c_grow_92f84_55 : decode cJx4a65c_grow_92f84 55 = .ok (.dup_x1, 1) := by decide +kernel
theorem dJx4a65c_grow_92f84_56 : decode cJx4a65c_grow_92f84 56 = .ok (.putfield 9, 3) := by decide +kernel
theorem dJx4a65c_grow_92f84_59 : decode cJx4a65c_grow_92f84 59 = .ok (.areturn, 1) := by decide +kernel
theorem dJx4a65c_grow_d5877_0 : decode cJx4a65c_grow_d5877 0 = .ok (.aload_n 0, 1) := by decide +kernel
theorem dJx4a65c_grow_d5877_1 : decode cJx4a65c_grow_d5877 1 = .ok (.aload_n 0, 1) := by decide +kernel
theorem dJx4a65c_grow_d5877_2 : decode cJx4a65c_grow_d5877 2 = .ok (.getfield 48, 3) := by decide +kernel
theorem dJx4a65c_grow_d5877_5 : decode cJx4a65c_grow_d5877 5 = .ok (.iconst 1, 1) := by decide +kernel
theorem dJx4a65c_grow_d5877_6 : decode cJx4a65c_grow_d5877 6 = .ok (.iadd, 1) := by decide +kernel
theorem dJx4a65c_grow_d5877_7 : decode cJx4a65c_grow_d5877 7 = .ok (.invokevirtual 69, 3) := by decide +kernel
theorem dJx4a65c_grow_d5877_10 : decode cJx4a65c_grow_d5877 10 = .ok (.areturn, 1) := by decide +kernel
theorem dJx4a65c_size_8abf5_0 : decode cJx4a65c_size_8abf5 0 = .ok (.aload_n 0, 1) := by decide +kernel
theorem dJx4a65c_size_8abf5_1 : decode cJx4a65c_size_8abf5 1 = .ok (.getfield 48, 3) := by decide +kernel
theorem dJx4a65c_size_8abf5_4 : decode cJx4a65c_size_8abf5 4 = .ok (.ireturn, 1) := by decide +kernel
theorem dJx4a65c_elementData_915e3_0 : decode cJx4a65c_elementData_915e3 0 = .ok (.aload_n 0, 1) := by decide +kernel
theorem dJx4a65c_elementData_915e3_1 : decode cJx4a65c_elementData_915e3 1 = .ok (.getfield 9, 3) := by decide +kernel
theorem dJx4a65c_elementData_915e3_4 : decode cJx4a65c_elementData_915e3 4 = .ok (.iload_n 1, 1) := by decide +kernel
theorem dJx4a65c_elementData_915e3_5 : decode cJx4a65c_elementData_915e3 5 = .ok (.aaload, 1) := by decide +kernel
theorem dJx4a65c_elementData_915e3_6 : decode cJx4a65c_elementData_915e3 6 = .ok (.areturn, 1) := by decide +kernel
theorem dJx4a65c_get_915e3_0 : decode cJx4a65c_get_915e3 0 = .ok (.iload_n 1, 1) := by decide +kernel
theorem dJx4a65c_get_915e3_1 : decode cJx4a65c_get_915e3 1 = .ok (.aload_n 0, 1) := by decide +kernel
theorem dJx4a65c_get_915e3_2 : decode cJx4a65c_get_915e3 2 = .ok (.getfield 48, 3) := by decide +kernel
theorem dJx4a65c_get_915e3_5 : decode cJx4a65c_get_915e3 5 = .ok (.invokestatic 118, 3) := by decide +kernel
theorem dJx4a65c_get_915e3_8 : decode cJx4a65c_get_915e3 8 = .ok (.pop, 1) := by decide +kernel
theorem dJx4a65c_get_915e3_9 : decode cJx4a65c_get_915e3 9 = .ok (.aload_n 0, 1) := by decide +kernel
theorem dJx4a65c_get_915e3_10 : decode cJx4a65c_get_915e3 10 = .ok (.iload_n 1, 1) := by decide +kernel
theorem dJx4a65c_get_915e3_11 : decode cJx4a65c_get_915e3 11 = .ok (.invokevirtual 123, 3) := by decide +kernel
theorem dJx4a65c_get_915e3_14 : decode cJx4a65c_get_915e3 14 = .ok (.areturn, 1) := by decide +kernel
theorem dJx4a65c_add_72be8_0 : decode cJx4a65c_add_72be8 0 = .ok (.iload_n 3, 1) := by decide +kernel
theorem dJx4a65c_add_72be8_1 : decode cJx4a65c_add_72be8 1 = .ok (.aload_n 2, 1) := by decide +kernel
theorem dJx4a65c_add_72be8_2 : decode cJx4a65c_add_72be8 2 = .ok (.arraylength, 1) := by decide +kernel
theorem dJx4a65c_add_72be8_3 : decode cJx4a65c_add_72be8 3 = .ok (.if_icmp .ne 8, 3) := by decide +kernel
theorem dJx4a65c_add_72be8_6 : decode cJx4a65c_add_72be8 6 = .ok (.aload_n 0, 1) := by decide +kernel
theorem dJx4a65c_add_72be8_7 : decode cJx4a65c_add_72be8 7 = .ok (.invokevirtual 129, 3) := by decide +kernel
theorem dJx4a65c_add_72be8_10 : decode cJx4a65c_add_72be8 10 = .ok (.astore_n 2, 1) := by decide +kernel
theorem dJx4a65c_add_72be8_11 : decode cJx4a65c_add_72be8 11 = .ok (.aload_n 2, 1) := by decide +kernel
theorem dJx4a65c_add_72be8_12 : decode cJx4a65c_add_72be8 12 = .ok (.iload_n 3, 1) := by decide +kernel
theorem dJx4a65c_add_72be8_13 : decode cJx4a65c_add_72be8 13 = .ok (.aload_n 1, 1) := by decide +kernel
theorem dJx4a65c_add_72be8_14 : decode cJx4a65c_add_72be8 14 = .ok (.aastore, 1) := by decide +kernel
theorem dJx4a65c_add_72be8_15 : decode cJx4a65c_add_72be8 15 = .ok (.aload_n 0, 1) := by decide +kernel
theorem dJx4a65c_add_72be8_16 : decode cJx4a65c_add_72be8 16 = .ok (.iload_n 3, 1) := by decide +kernel
theorem dJx4a65c_add_72be8_17 : decode cJx4a65c_add_72be8 17 = .ok (.iconst 1, 1) := by decide +kernel
theorem dJx4a65c_add_72be8_18 : decode cJx4a65c_add_72be8 18 = .ok (.iadd, 1) := by decide +kernel
theorem dJx4a65c_add_72be8_19 : decode cJx4a65c_add_72be8 19 = .ok (.putfield 48, 3) := by decide +kernel
theorem dJx4a65c_add_72be8_22 : decode cJx4a65c_add_72be8 22 = .ok (.return_, 1) := by decide +kernel
theorem dJx4a65c_add_9ea2d_0 : decode cJx4a65c_add_9ea2d 0 = .ok (.aload_n 0, 1) := by decide +kernel
theorem dJx4a65c_add_9ea2d_1 : decode cJx4a65c_add_9ea2d 1 = .ok (.dup, 1) := by decide +kernel
theorem dJx4a65c_add_9ea2d_2 : decode cJx4a65c_add_9ea2d 2 = .ok (.getfield 63, 3) := by decide +kernel
theorem dJx4a65c_add_9ea2d_5 : decode cJx4a65c_add_9ea2d 5 = .ok (.iconst 1, 1) := by decide +kernel
theorem dJx4a65c_add_9ea2d_6 : decode cJx4a65c_add_9ea2d 6 = .ok (.iadd, 1) := by decide +kernel
theorem dJx4a65c_add_9ea2d_7 : decode cJx4a65c_add_9ea2d 7 = .ok (.putfield 63, 3) := by decide +kernel
theorem dJx4a65c_add_9ea2d_10 : decode cJx4a65c_add_9ea2d 10 = .ok (.aload_n 0, 1) := by decide +kernel
theorem dJx4a65c_add_9ea2d_11 : decode cJx4a65c_add_9ea2d 11 = .ok (.aload_n 1, 1) := by decide +kernel
theorem dJx4a65c_add_9ea2d_12 : decode cJx4a65c_add_9ea2d 12 = .ok (.aload_n 0, 1) := by decide +kernel
theorem dJx4a65c_add_9ea2d_13 : decode cJx4a65c_add_9ea2d 13 = .ok (.getfield 9, 3) := by decide +kernel
theorem dJx4a65c_add_9ea2d_16 : decode cJx4a65c_add_9ea2d 16 = .ok (.aload_n 0, 1) := by decide +kernel
theorem dJx4a65c_add_9ea2d_17 : decode cJx4a65c_add_9ea2d 17 = .ok (.getfield 48, 3) := by decide +kernel
theorem dJx4a65c_add_9ea2d_20 : decode cJx4a65c_add_9ea2d 20 = .ok (.invokevirtual 131, 3) := by decide +kernel
theorem dJx4a65c_add_9ea2d_23 : decode cJx4a65c_add_9ea2d 23 = .ok (.iconst 1, 1) := by decide +kernel
theorem dJx4a65c_add_9ea2d_24 : decode cJx4a65c_add_9ea2d 24 = .ok (.ireturn, 1) := by decide +kernel
theorem dJx4a65c_add_7a177_0 : decode cJx4a65c_add_7a177 0 = .ok (.aload_n 0, 1) := by decide +kernel
theorem dJx4a65c_add_7a177_1 : decode cJx4a65c_add_7a177 1 = .ok (.iload_n 1, 1) := by decide +kernel
theorem dJx4a65c_add_7a177_2 : decode cJx4a65c_add_7a177 2 = .ok (.invokevirtual 135, 3) := by decide +kernel
theorem dJx4a65c_add_7a177_5 : decode cJx4a65c_add_7a177 5 = .ok (.aload_n 0, 1) := by decide +kernel
theorem dJx4a65c_add_7a177_6 : decode cJx4a65c_add_7a177 6 = .ok (.dup, 1) := by decide +kernel
theorem dJx4a65c_add_7a177_7 : decode cJx4a65c_add_7a177 7 = .ok (.getfield 63, 3) := by decide +kernel
theorem dJx4a65c_add_7a177_10 : decode cJx4a65c_add_7a177 10 = .ok (.iconst 1, 1) := by decide +kernel
theorem dJx4a65c_add_7a177_11 : decode cJx4a65c_add_7a177 11 = .ok (.iadd, 1) := by decide +kernel
theorem dJx4a65c_add_7a177_12 : decode cJx4a65c_add_7a177 12 = .ok (.putfield 63, 3) := by decide +kernel
theorem dJx4a65c_add_7a177_15 : decode cJx4a65c_add_7a177 15 = .ok (.aload_n 0, 1) := by decide +kernel
theorem dJx4a65c_add_7a177_16 : decode cJx4a65c_add_7a177 16 = .ok (.getfield 48, 3) := by decide +kernel
theorem dJx4a65c_add_7a177_19 : decode cJx4a65c_add_7a177 19 = .ok (.dup, 1) := by decide +kernel
theorem dJx4a65c_add_7a177_20 : decode cJx4a65c_add_7a177 20 = .ok (.istore_n 3, 1) := by decide +kernel
theorem dJx4a65c_add_7a177_21 : decode cJx4a65c_add_7a177 21 = .ok (.aload_n 0, 1) := by decide +kernel
theorem dJx4a65c_add_7a177_22 : decode cJx4a65c_add_7a177 22 = .ok (.getfield 9, 3) := by decide +kernel
theorem dJx4a65c_add_7a177_25 : decode cJx4a65c_add_7a177 25 = .ok (.dup, 1) := by decide +kernel
theorem dJx4a65c_add_7a177_26 : decode cJx4a65c_add_7a177 26 = .ok (.astore 4, 2) := by decide +kernel
theorem dJx4a65c_add_7a177_28 : decode cJx4a65c_add_7a177 28 = .ok (.arraylength, 1) := by decide +kernel
theorem dJx4a65c_add_7a177_29 : decode cJx4a65c_add_7a177 29 = .ok (.if_icmp .ne 9, 3) := by decide +kernel
theorem dJx4a65c_add_7a177_32 : decode cJx4a65c_add_7a177 32 = .ok (.aload_n 0, 1) := by decide +kernel
theorem dJx4a65c_add_7a177_33 : decode cJx4a65c_add_7a177 33 = .ok (.invokevirtual 129, 3) := by decide +kernel
theorem dJx4a65c_add_7a177_36 : decode cJx4a65c_add_7a177 36 = .ok (.astore 4, 2) := by decide +kernel
theorem dJx4a65c_add_7a177_38 : decode cJx4a65c_add_7a177 38 = .ok (.aload 4, 2) := by decide +kernel
theorem dJx4a65c_add_7a177_40 : decode cJx4a65c_add_7a177 40 = .ok (.iload_n 1, 1) := by decide +kernel
theorem dJx4a65c_add_7a177_41 : decode cJx4a65c_add_7a177 41 = .ok (.aload 4, 2) := by decide +kernel
theorem dJx4a65c_add_7a177_43 : decode cJx4a65c_add_7a177 43 = .ok (.iload_n 1, 1) := by decide +kernel
theorem dJx4a65c_add_7a177_44 : decode cJx4a65c_add_7a177 44 = .ok (.iconst 1, 1) := by decide +kernel
theorem dJx4a65c_add_7a177_45 : decode cJx4a65c_add_7a177 45 = .ok (.iadd, 1) := by decide +kernel
theorem dJx4a65c_add_7a177_46 : decode cJx4a65c_add_7a177 46 = .ok (.iload_n 3, 1) := by decide +kernel
theorem dJx4a65c_add_7a177_47 : decode cJx4a65c_add_7a177 47 = .ok (.iload_n 1, 1) := by decide +kernel
theorem dJx4a65c_add_7a177_48 : decode cJx4a65c_add_7a177 48 = .ok (.isub, 1) := by decide +kernel
theorem dJx4a65c_add_7a177_49 : decode cJx4a65c_add_7a177 49 = .ok (.invokestatic 112, 3) := by decide +kernel
theorem dJx4a65c_add_7a177_52 : decode cJx4a65c_add_7a177 52 = .ok (.aload 4, 2) := by decide +kernel
theorem dJx4a65c_add_7a177_54 : decode cJx4a65c_add_7a177 54 = .ok (.iload_n 1, 1) := by decide +kernel
theorem dJx4a65c_add_7a177_55 : decode cJx4a65c_add_7a177 55 = .ok (.aload_n 2, 1) := by decide +kernel
theorem dJx4a65c_add_7a177_56 : decode cJx4a65c_add_7a177 56 = .ok (.aastore, 1) := by decide +kernel
theorem dJx4a65c_add_7a177_57 : decode cJx4a65c_add_7a177 57 = .ok (.aload_n 0, 1) := by decide +kernel
theorem dJx4a65c_add_7a177_58 : decode cJx4a65c_add_7a177 58 = .ok (.iload_n 3, 1) := by decide +kernel
theorem dJx4a65c_add_7a177_59 : decode cJx4a65c_add_7a177 59 = .ok (.iconst 1, 1) := by decide +kernel
theorem dJx4a65c_add_7a177_60 : decode cJx4a65c_add_7a177 60 = .ok (.iadd, 1) := by decide +kernel
theorem dJx4a65c_add_7a177_61 : decode cJx4a65c_add_7a177 61 = .ok (.putfield 48, 3) := by decide +kernel
theorem dJx4a65c_add_7a177_64 : decode cJx4a65c_add_7a177 64 = .ok (.return_, 1) := by decide +kernel
theorem dJx4a65c_rangeCheckForAdd_d00df_0 : decode cJx4a65c_rangeCheckForAdd_d00df 0 = .ok (.iload_n 1, 1) := by decide +kernel
theorem dJx4a65c_rangeCheckForAdd_d00df_1 : decode cJx4a65c_rangeCheckForAdd_d00df 1 = .ok (.aload_n 0, 1) := by decide +kernel
theorem dJx4a65c_rangeCheckForAdd_d00df_2 : decode cJx4a65c_rangeCheckForAdd_d00df 2 = .ok (.getfield 48, 3) := by decide +kernel
theorem dJx4a65c_rangeCheckForAdd_d00df_5 : decode cJx4a65c_rangeCheckForAdd_d00df 5 = .ok (.if_icmp .gt 7, 3) := by decide +kernel
theorem dJx4a65c_rangeCheckForAdd_d00df_8 : decode cJx4a65c_rangeCheckForAdd_d00df 8 = .ok (.iload_n 1, 1) := by decide +kernel
theorem dJx4a65c_rangeCheckForAdd_d00df_9 : decode cJx4a65c_rangeCheckForAdd_d00df 9 = .ok (.ifCond .ge 16, 3) := by decide +kernel
theorem dJx4a65c_rangeCheckForAdd_d00df_12 : decode cJx4a65c_rangeCheckForAdd_d00df 12 = .ok (.new 187, 3) := by decide +kernel
theorem dJx4a65c_rangeCheckForAdd_d00df_15 : decode cJx4a65c_rangeCheckForAdd_d00df 15 = .ok (.dup, 1) := by decide +kernel
theorem dJx4a65c_rangeCheckForAdd_d00df_16 : decode cJx4a65c_rangeCheckForAdd_d00df 16 = .ok (.aload_n 0, 1) := by decide +kernel
theorem dJx4a65c_rangeCheckForAdd_d00df_17 : decode cJx4a65c_rangeCheckForAdd_d00df 17 = .ok (.iload_n 1, 1) := by decide +kernel
theorem dJx4a65c_rangeCheckForAdd_d00df_18 : decode cJx4a65c_rangeCheckForAdd_d00df 18 = .ok (.invokevirtual 198, 3) := by decide +kernel
theorem dJx4a65c_rangeCheckForAdd_d00df_21 : decode cJx4a65c_rangeCheckForAdd_d00df 21 = .ok (.invokespecial 193, 3) := by decide +kernel
theorem dJx4a65c_rangeCheckForAdd_d00df_24 : decode cJx4a65c_rangeCheckForAdd_d00df 24 = .ok (.athrow, 1) := by decide +kernel
theorem dJx4a65c_rangeCheckForAdd_d00df_25 : decode cJx4a65c_rangeCheckForAdd_d00df 25 = .ok (.return_, 1) := by decide +kernel
theorem dJxc12de_init_da8c8_0 : decode cJxc12de_init_da8c8 0 = .ok (.aload_n 0, 1) := by decide +kernel
theorem dJxc12de_init_da8c8_1 : decode cJxc12de_init_da8c8 1 = .ok (.invokespecial 1, 3) := by decide +kernel
theorem dJxc12de_init_da8c8_4 : decode cJxc12de_init_da8c8 4 = .ok (.aload_n 0, 1) := by decide +kernel
theorem dJxc12de_init_da8c8_5 : decode cJxc12de_init_da8c8 5 = .ok (.iconst 0, 1) := by decide +kernel
theorem dJxc12de_init_da8c8_6 : decode cJxc12de_init_da8c8 6 = .ok (.putfield 7, 3) := by decide +kernel
theorem dJxc12de_init_da8c8_9 : decode cJxc12de_init_da8c8 9 = .ok (.return_, 1) := by decide +kernel
theorem dJxa1e45_init_da8c8_0 : decode cJxa1e45_init_da8c8 0 = .ok (.aload_n 0, 1) := by decide +kernel
theorem dJxa1e45_init_da8c8_1 : decode cJxa1e45_init_da8c8 1 = .ok (.invokespecial 1, 3) := by decide +kernel
theorem dJxa1e45_init_da8c8_4 : decode cJxa1e45_init_da8c8 4 = .ok (.return_, 1) := by decide +kernel
theorem dJ15_checkIndex_7cf53_0 : decode cJ15_checkIndex_7cf53 0 = .ok (.iload_n 0, 1) := by decide +kernel
theorem dJ15_checkIndex_7cf53_1 : decode cJ15_checkIndex_7cf53 1 = .ok (.iload_n 1, 1) := by decide +kernel
theorem dJ15_checkIndex_7cf53_2 : decode cJ15_checkIndex_7cf53 2 = .ok (.aconst_null, 1) := by decide +kernel
theorem dJ15_checkIndex_7cf53_3 : decode cJ15_checkIndex_7cf53 3 = .ok (.invokestatic 105, 3) := by decide +kernel
theorem dJ15_checkIndex_7cf53_6 : decode cJ15_checkIndex_7cf53 6 = .ok (.ireturn, 1) := by decide +kernel
theorem dJ3_checkIndex_8e157_0 : decode cJ3_checkIndex_8e157 0 = .ok (.iload_n 0, 1) := by decide +kernel
theorem dJ3_checkIndex_8e157_1 : decode cJ3_checkIndex_8e157 1 = .ok (.ifCond .lt 8, 3) := by decide +kernel
theorem dJ3_checkIndex_8e157_4 : decode cJ3_checkIndex_8e157 4 = .ok (.iload_n 0, 1) := by decide +kernel
theorem dJ3_checkIndex_8e157_5 : decode cJ3_checkIndex_8e157 5 = .ok (.iload_n 1, 1) := by decide +kernel
theorem dJ3_checkIndex_8e157_6 : decode cJ3_checkIndex_8e157 6 = .ok (.if_icmp .lt 10, 3) := by decide +kernel
theorem dJ3_checkIndex_8e157_9 : decode cJ3_checkIndex_8e157 9 = .ok (.aload_n 2, 1) := by decide +kernel
theorem dJ3_checkIndex_8e157_10 : decode cJ3_checkIndex_8e157 10 = .ok (.iload_n 0, 1) := by decide +kernel
theorem dJ3_checkIndex_8e157_11 : decode cJ3_checkIndex_8e157 11 = .ok (.iload_n 1, 1) := by decide +kernel
theorem dJ3_checkIndex_8e157_12 : decode cJ3_checkIndex_8e157 12 = .ok (.invokestatic 95, 3) := by decide +kernel
theorem dJ3_checkIndex_8e157_15 : decode cJ3_checkIndex_8e157 15 = .ok (.athrow, 1) := by decide +kernel
theorem dJ3_checkIndex_8e157_16 : decode cJ3_checkIndex_8e157 16 = .ok (.iload_n 0, 1) := by decide +kernel
theorem dJ3_checkIndex_8e157_17 : decode cJ3_checkIndex_8e157 17 = .ok (.ireturn, 1) := by decide +kernel
theorem dJ8_newLength_cabcc_0 : decode cJ8_newLength_cabcc 0 = .ok (.iload_n 0, 1) := by decide +kernel
theorem dJ8_newLength_cabcc_1 : decode cJ8_newLength_cabcc 1 = .ok (.iload_n 1, 1) := by decide +kernel
theorem dJ8_newLength_cabcc_2 : decode cJ8_newLength_cabcc 2 = .ok (.iload_n 2, 1) := by decide +kernel
theorem dJ8_newLength_cabcc_3 : decode cJ8_newLength_cabcc 3 = .ok (.invokestatic 194, 3) := by decide +kernel
theorem dJ8_newLength_cabcc_6 : decode cJ8_newLength_cabcc 6 = .ok (.iadd, 1) := by decide +kernel
theorem dJ8_newLength_cabcc_7 : decode cJ8_newLength_cabcc 7 = .ok (.istore_n 3, 1) := by decide +kernel
theorem dJ8_newLength_cabcc_8 : decode cJ8_newLength_cabcc 8 = .ok (.iconst 0, 1) := by decide +kernel
theorem dJ8_newLength_cabcc_9 : decode cJ8_newLength_cabcc 9 = .ok (.iload_n 3, 1) := by decide +kernel
theorem dJ8_newLength_cabcc_10 : decode cJ8_newLength_cabcc 10 = .ok (.if_icmp .ge 11, 3) := by decide +kernel
theorem dJ8_newLength_cabcc_13 : decode cJ8_newLength_cabcc 13 = .ok (.iload_n 3, 1) := by decide +kernel
theorem dJ8_newLength_cabcc_14 : decode cJ8_newLength_cabcc 14 = .ok (.ldc 200, 2) := by decide +kernel
theorem dJ8_newLength_cabcc_16 : decode cJ8_newLength_cabcc 16 = .ok (.if_icmp .gt 5, 3) := by decide +kernel
theorem dJ8_newLength_cabcc_19 : decode cJ8_newLength_cabcc 19 = .ok (.iload_n 3, 1) := by decide +kernel
theorem dJ8_newLength_cabcc_20 : decode cJ8_newLength_cabcc 20 = .ok (.ireturn, 1) := by decide +kernel
theorem dJ8_newLength_cabcc_21 : decode cJ8_newLength_cabcc 21 = .ok (.iload_n 0, 1) := by decide +kernel
theorem dJ8_newLength_cabcc_22 : decode cJ8_newLength_cabcc 22 = .ok (.iload_n 1, 1) := by decide +kernel
theorem dJ8_newLength_cabcc_23 : decode cJ8_newLength_cabcc 23 = .ok (.invokestatic 201, 3) := by decide +kernel
theorem dJ8_newLength_cabcc_26 : decode cJ8_newLength_cabcc 26 = .ok (.ireturn, 1) := by decide +kernel
theorem dJ7_copyOf_1904c_0 : decode cJ7_copyOf_1904c 0 = .ok (.aload_n 0, 1) := by decide +kernel
theorem dJ7_copyOf_1904c_1 : decode cJ7_copyOf_1904c 1 = .ok (.iload_n 1, 1) := by decide +kernel
theorem dJ7_copyOf_1904c_2 : decode cJ7_copyOf_1904c 2 = .ok (.aload_n 0, 1) := by decide +kernel
theorem dJ7_copyOf_1904c_3 : decode cJ7_copyOf_1904c 3 = .ok (.invokevirtual 86, 3) := by decide +kernel
theorem dJ7_copyOf_1904c_6 : decode cJ7_copyOf_1904c 6 = .ok (.invokestatic 300, 3) := by decide +kernel
theorem dJ7_copyOf_1904c_9 : decode cJ7_copyOf_1904c 9 = .ok (.areturn, 1) := by decide +kernel
theorem dJ7_copyOf_6403c_0 : decode cJ7_copyOf_6403c 0 = .ok (.aload_n 2, 1) := by decide +kernel
theorem dJ7_copyOf_6403c_1 : decode cJ7_copyOf_6403c 1 = .ok (.ldc 110, 2) := by decide +kernel
theorem dJ7_copyOf_6403c_3 : decode cJ7_copyOf_6403c 3 = .ok (.if_acmp .ne 10, 3) := by decide +kernel
theorem dJ7_copyOf_6403c_6 : decode cJ7_copyOf_6403c 6 = .ok (.iload_n 1, 1) := by decide +kernel
theorem dJ7_copyOf_6403c_7 : decode cJ7_copyOf_6403c 7 = .ok (.anewarray 2, 3) := by decide +kernel
theorem dJ7_copyOf_6403c_10 : decode cJ7_copyOf_6403c 10 = .ok (.goto 14, 3) := by decide +kernel
theorem dJ7_copyOf_6403c_13 : decode cJ7_copyOf_6403c 13 = .ok (.aload_n 2, 1) := by decide +kernel
theorem dJ7_copyOf_6403c_14 : decode cJ7_copyOf_6403c 14 = .ok (.invokevirtual 90, 3) := by decide +kernel
theorem dJ7_copyOf_6403c_17 : decode cJ7_copyOf_6403c 17 = .ok (.iload_n 1, 1) := by decide +kernel
theorem dJ7_copyOf_6403c_18 : decode cJ7_copyOf_6403c 18 = .ok (.invokestatic 95, 3) := by decide +kernel
theorem dJ7_copyOf_6403c_21 : decode cJ7_copyOf_6403c 21 = .ok (.checkcast 110, 3) := by decide +kernel
theorem dJ7_copyOf_6403c_24 : decode cJ7_copyOf_6403c 24 = .ok (.astore_n 3, 1) := by decide +kernel
theorem dJ7_copyOf_6403c_25 : decode cJ7_copyOf_6403c 25 = .ok (.aload_n 0, 1) := by decide +kernel
theorem dJ7_copyOf_6403c_26 : decode cJ7_copyOf_6403c 26 = .ok (.iconst 0, 1) := by decide +kernel
theorem dJ7_copyOf_6403c_27 : decode cJ7_copyOf_6403c 27 = .ok (.aload_n 3, 1) := by decide +kernel
theorem dJ7_copyOf_6403c_28 : decode cJ7_copyOf_6403c 28 = .ok (.iconst 0, 1) := by decide +kernel
theorem dJ7_copyOf_6403c_29 : decode cJ7_copyOf_6403c 29 = .ok (.aload_n 0, 1) := by decide +kernel
theorem dJ7_copyOf_6403c_30 : decode cJ7_copyOf_6403c 30 = .ok (.arraylength, 1) := by decide +kernel
theorem dJ7_copyOf_6403c_31 : decode cJ7_copyOf_6403c 31 = .ok (.iload_n 1, 1) := by decide +kernel
theorem dJ7_copyOf_6403c_32 : decode cJ7_copyOf_6403c 32 = .ok (.invokestatic 304, 3) := by decide +kernel
theorem dJ7_copyOf_6403c_35 : decode cJ7_copyOf_6403c 35 = .ok (.invokestatic 150, 3) := by decide +kernel
theorem dJ7_copyOf_6403c_38 : decode cJ7_copyOf_6403c 38 = .ok (.aload_n 3, 1) := by decide +kernel
theorem dJ7_copyOf_6403c_39 : decode cJ7_copyOf_6403c 39 = .ok (.areturn, 1) := by decide +kernel
