theorem dX1_init_0 : decode cX1_init 0 = .ok (.aload_n 0, 1) := by decide +kernel
theorem dX1_init_1 : decode cX1_init 1 = .ok (.invokespecial 3, 3) := by decide +kernel
theorem dX1_init_4 : decode cX1_init 4 = .ok (.aload_n 0, 1) := by decide +kernel
theorem dX1_init_5 : decode cX1_init 5 = .ok (.sipush 400, 3) := by decide +kernel
theorem dX1_init_8 : decode cX1_init 8 = .ok (.newarray .int, 2) := by decide +kernel
theorem dX1_init_10 : decode cX1_init 10 = .ok (.putfield 9, 3) := by decide +kernel
theorem dX1_init_13 : decode cX1_init 13 = .ok (.return_, 1) := by decide +kernel
theorem dX1_raise_0 : decode cX1_raise 0 = .ok (.iload_n 1, 1) := by decide +kernel
theorem dX1_raise_1 : decode cX1_raise 1 = .ok (.iload_n 2, 1) := by decide +kernel
theorem dX1_raise_2 : decode cX1_raise 2 = .ok (.iload_n 3, 1) := by decide +kernel
theorem dX1_raise_3 : decode cX1_raise 3 = .ok (.invokestatic 15, 3) := by decide +kernel
theorem dX1_raise_6 : decode cX1_raise 6 = .ok (.ifCond .ne 5, 3) := by decide +kernel
theorem dX1_raise_9 : decode cX1_raise 9 = .ok (.iconst 0, 1) := by decide +kernel
theorem dX1_raise_10 : decode cX1_raise 10 = .ok (.ireturn, 1) := by decide +kernel
theorem dX1_raise_11 : decode cX1_raise 11 = .ok (.iload_n 1, 1) := by decide +kernel
theorem dX1_raise_12 : decode cX1_raise 12 = .ok (.iload_n 2, 1) := by decide +kernel
theorem dX1_raise_13 : decode cX1_raise 13 = .ok (.iload_n 3, 1) := by decide +kernel
theorem dX1_raise_14 : decode cX1_raise 14 = .ok (.invokestatic 19, 3) := by decide +kernel
theorem dX1_raise_17 : decode cX1_raise 17 = .ok (.istore 4, 2) := by decide +kernel
theorem dX1_raise_19 : decode cX1_raise 19 = .ok (.aload_n 0, 1) := by decide +kernel
theorem dX1_raise_20 : decode cX1_raise 20 = .ok (.getfield 9, 3) := by decide +kernel
theorem dX1_raise_23 : decode cX1_raise 23 = .ok (.iload 4, 2) := by decide +kernel
theorem dX1_raise_25 : decode cX1_raise 25 = .ok (.dup2, 1) := by decide +kernel
theorem dX1_raise_26 : decode cX1_raise 26 = .ok (.iaload, 1) := by decide +kernel
theorem dX1_raise_27 : decode cX1_raise 27 = .ok (.iconst 1, 1) := by decide +kernel
theorem dX1_raise_28 : decode cX1_raise 28 = .ok (.iadd, 1) := by decide +kernel
theorem dX1_raise_29 : decode cX1_raise 29 = .ok (.iastore, 1) := by decide +kernel
theorem dX1_raise_30 : decode cX1_raise 30 = .ok (.aload_n 0, 1) := by decide +kernel
theorem dX1_raise_31 : decode cX1_raise 31 = .ok (.getfield 9, 3) := by decide +kernel
theorem dX1_raise_34 : decode cX1_raise 34 = .ok (.iload 4, 2) := by decide +kernel
theorem dX1_raise_36 : decode cX1_raise 36 = .ok (.iaload, 1) := by decide +kernel
theorem dX1_raise_37 : decode cX1_raise 37 = .ok (.ireturn, 1) := by decide +kernel
theorem dX1_forget_0 : decode cX1_forget 0 = .ok (.iload_n 1, 1) := by decide +kernel
theorem dX1_forget_1 : decode cX1_forget 1 = .ok (.iload_n 2, 1) := by decide +kernel
theorem dX1_forget_2 : decode cX1_forget 2 = .ok (.iload_n 3, 1) := by decide +kernel
theorem dX1_forget_3 : decode cX1_forget 3 = .ok (.invokestatic 15, 3) := by decide +kernel
theorem dX1_forget_6 : decode cX1_forget 6 = .ok (.ifCond .eq 15, 3) := by decide +kernel
theorem dX1_forget_9 : decode cX1_forget 9 = .ok (.aload_n 0, 1) := by decide +kernel
theorem dX1_forget_10 : decode cX1_forget 10 = .ok (.getfield 9, 3) := by decide +kernel
theorem dX1_forget_13 : decode cX1_forget 13 = .ok (.iload_n 1, 1) := by decide +kernel
theorem dX1_forget_14 : decode cX1_forget 14 = .ok (.iload_n 2, 1) := by decide +kernel
theorem dX1_forget_15 : decode cX1_forget 15 = .ok (.iload_n 3, 1) := by decide +kernel
theorem dX1_forget_16 : decode cX1_forget 16 = .ok (.invokestatic 19, 3) := by decide +kernel
theorem dX1_forget_19 : decode cX1_forget 19 = .ok (.iconst 0, 1) := by decide +kernel
theorem dX1_forget_20 : decode cX1_forget 20 = .ok (.iastore, 1) := by decide +kernel
theorem dX1_forget_21 : decode cX1_forget 21 = .ok (.return_, 1) := by decide +kernel
theorem dX1_forgetAll_0 : decode cX1_forgetAll 0 = .ok (.aload_n 0, 1) := by decide +kernel
theorem dX1_forgetAll_1 : decode cX1_forgetAll 1 = .ok (.getfield 9, 3) := by decide +kernel
theorem dX1_forgetAll_4 : decode cX1_forgetAll 4 = .ok (.iconst 0, 1) := by decide +kernel
theorem dX1_forgetAll_5 : decode cX1_forgetAll 5 = .ok (.invokestatic 23, 3) := by decide +kernel
theorem dX1_forgetAll_8 : decode cX1_forgetAll 8 = .ok (.return_, 1) := by decide +kernel
theorem dX1_isPlace_0 : decode cX1_isPlace 0 = .ok (.iload_n 0, 1) := by decide +kernel
theorem dX1_isPlace_1 : decode cX1_isPlace 1 = .ok (.invokestatic 29, 3) := by decide +kernel
theorem dX1_isPlace_4 : decode cX1_isPlace 4 = .ok (.ifCond .eq 21, 3) := by decide +kernel
theorem dX1_isPlace_7 : decode cX1_isPlace 7 = .ok (.iload_n 1, 1) := by decide +kernel
theorem dX1_isPlace_8 : decode cX1_isPlace 8 = .ok (.invokestatic 29, 3) := by decide +kernel
theorem dX1_isPlace_11 : decode cX1_isPlace 11 = .ok (.ifCond .eq 14, 3) := by decide +kernel
theorem dX1_isPlace_14 : decode cX1_isPlace 14 = .ok (.iload_n 2, 1) := by decide +kernel
theorem dX1_isPlace_15 : decode cX1_isPlace 15 = .ok (.invokestatic 33, 3) := by decide +kernel
theorem dX1_isPlace_18 : decode cX1_isPlace 18 = .ok (.ifCond .eq 7, 3) := by decide +kernel
theorem dX1_isPlace_21 : decode cX1_isPlace 21 = .ok (.iconst 1, 1) := by decide +kernel
theorem dX1_isPlace_22 : decode cX1_isPlace 22 = .ok (.goto 4, 3) := by decide +kernel
theorem dX1_isPlace_25 : decode cX1_isPlace 25 = .ok (.iconst 0, 1) := by decide +kernel
theorem dX1_isPlace_26 : decode cX1_isPlace 26 = .ok (.ireturn, 1) := by decide +kernel
theorem dX1_placeOf_0 : decode cX1_placeOf 0 = .ok (.iload_n 2, 1) := by decide +kernel
theorem dX1_placeOf_1 : decode cX1_placeOf 1 = .ok (.bipush 10, 2) := by decide +kernel
theorem dX1_placeOf_3 : decode cX1_placeOf 3 = .ok (.imul, 1) := by decide +kernel
theorem dX1_placeOf_4 : decode cX1_placeOf 4 = .ok (.iload_n 1, 1) := by decide +kernel
theorem dX1_placeOf_5 : decode cX1_placeOf 5 = .ok (.iadd, 1) := by decide +kernel
theorem dX1_placeOf_6 : decode cX1_placeOf 6 = .ok (.bipush 10, 2) := by decide +kernel
theorem dX1_placeOf_8 : decode cX1_placeOf 8 = .ok (.imul, 1) := by decide +kernel
theorem dX1_placeOf_9 : decode cX1_placeOf 9 = .ok (.iload_n 0, 1) := by decide +kernel
theorem dX1_placeOf_10 : decode cX1_placeOf 10 = .ok (.iadd, 1) := by decide +kernel
theorem dX1_placeOf_11 : decode cX1_placeOf 11 = .ok (.ireturn, 1) := by decide +kernel
