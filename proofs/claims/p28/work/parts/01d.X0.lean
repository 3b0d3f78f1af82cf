theorem dX0_init_0 : decode cX0_init 0 = .ok (.aload_n 0, 1) := by decide +kernel
theorem dX0_init_1 : decode cX0_init 1 = .ok (.invokespecial 3, 3) := by decide +kernel
theorem dX0_init_4 : decode cX0_init 4 = .ok (.aload_n 0, 1) := by decide +kernel
theorem dX0_init_5 : decode cX0_init 5 = .ok (.sipush 200, 3) := by decide +kernel
theorem dX0_init_8 : decode cX0_init 8 = .ok (.newarray .int, 2) := by decide +kernel
theorem dX0_init_10 : decode cX0_init 10 = .ok (.putfield 9, 3) := by decide +kernel
theorem dX0_init_13 : decode cX0_init 13 = .ok (.aload_n 0, 1) := by decide +kernel
theorem dX0_init_14 : decode cX0_init 14 = .ok (.sipush 200, 3) := by decide +kernel
theorem dX0_init_17 : decode cX0_init 17 = .ok (.newarray .int, 2) := by decide +kernel
theorem dX0_init_19 : decode cX0_init 19 = .ok (.putfield 15, 3) := by decide +kernel
theorem dX0_init_22 : decode cX0_init 22 = .ok (.aload_n 0, 1) := by decide +kernel
theorem dX0_init_23 : decode cX0_init 23 = .ok (.sipush 200, 3) := by decide +kernel
theorem dX0_init_26 : decode cX0_init 26 = .ok (.newarray .int, 2) := by decide +kernel
theorem dX0_init_28 : decode cX0_init 28 = .ok (.putfield 18, 3) := by decide +kernel
theorem dX0_init_31 : decode cX0_init 31 = .ok (.aload_n 0, 1) := by decide +kernel
theorem dX0_init_32 : decode cX0_init 32 = .ok (.sipush 200, 3) := by decide +kernel
theorem dX0_init_35 : decode cX0_init 35 = .ok (.newarray .int, 2) := by decide +kernel
theorem dX0_init_37 : decode cX0_init 37 = .ok (.putfield 21, 3) := by decide +kernel
theorem dX0_init_40 : decode cX0_init 40 = .ok (.return_, 1) := by decide +kernel
theorem dX0_isEmpty_0 : decode cX0_isEmpty 0 = .ok (.aload_n 0, 1) := by decide +kernel
theorem dX0_isEmpty_1 : decode cX0_isEmpty 1 = .ok (.getfield 24, 3) := by decide +kernel
theorem dX0_isEmpty_4 : decode cX0_isEmpty 4 = .ok (.ifCond .ne 7, 3) := by decide +kernel
theorem dX0_isEmpty_7 : decode cX0_isEmpty 7 = .ok (.iconst 1, 1) := by decide +kernel
theorem dX0_isEmpty_8 : decode cX0_isEmpty 8 = .ok (.goto 4, 3) := by decide +kernel
theorem dX0_isEmpty_11 : decode cX0_isEmpty 11 = .ok (.iconst 0, 1) := by decide +kernel
theorem dX0_isEmpty_12 : decode cX0_isEmpty 12 = .ok (.ireturn, 1) := by decide +kernel
theorem dX0_count_0 : decode cX0_count 0 = .ok (.aload_n 0, 1) := by decide +kernel
theorem dX0_count_1 : decode cX0_count 1 = .ok (.getfield 24, 3) := by decide +kernel
theorem dX0_count_4 : decode cX0_count 4 = .ok (.ireturn, 1) := by decide +kernel
theorem dX0_put_0 : decode cX0_put 0 = .ok (.aload_n 0, 1) := by decide +kernel
theorem dX0_put_1 : decode cX0_put 1 = .ok (.getfield 24, 3) := by decide +kernel
theorem dX0_put_4 : decode cX0_put 4 = .ok (.sipush 200, 3) := by decide +kernel
theorem dX0_put_7 : decode cX0_put 7 = .ok (.if_icmp .lt 5, 3) := by decide +kernel
theorem dX0_put_10 : decode cX0_put 10 = .ok (.iconst 0, 1) := by decide +kernel
theorem dX0_put_11 : decode cX0_put 11 = .ok (.ireturn, 1) := by decide +kernel
theorem dX0_put_12 : decode cX0_put 12 = .ok (.aload_n 0, 1) := by decide +kernel
theorem dX0_put_13 : decode cX0_put 13 = .ok (.getfield 28, 3) := by decide +kernel
theorem dX0_put_16 : decode cX0_put 16 = .ok (.aload_n 0, 1) := by decide +kernel
theorem dX0_put_17 : decode cX0_put 17 = .ok (.getfield 24, 3) := by decide +kernel
theorem dX0_put_20 : decode cX0_put 20 = .ok (.iadd, 1) := by decide +kernel
theorem dX0_put_21 : decode cX0_put 21 = .ok (.sipush 200, 3) := by decide +kernel
theorem dX0_put_24 : decode cX0_put 24 = .ok (.irem, 1) := by decide +kernel
theorem dX0_put_25 : decode cX0_put 25 = .ok (.istore 5, 2) := by decide +kernel
theorem dX0_put_27 : decode cX0_put 27 = .ok (.aload_n 0, 1) := by decide +kernel
theorem dX0_put_28 : decode cX0_put 28 = .ok (.getfield 9, 3) := by decide +kernel
theorem dX0_put_31 : decode cX0_put 31 = .ok (.iload 5, 2) := by decide +kernel
theorem dX0_put_33 : decode cX0_put 33 = .ok (.iload_n 1, 1) := by decide +kernel
theorem dX0_put_34 : decode cX0_put 34 = .ok (.iastore, 1) := by decide +kernel
theorem dX0_put_35 : decode cX0_put 35 = .ok (.aload_n 0, 1) := by decide +kernel
theorem dX0_put_36 : decode cX0_put 36 = .ok (.getfield 15, 3) := by decide +kernel
theorem dX0_put_39 : decode cX0_put 39 = .ok (.iload 5, 2) := by decide +kernel
theorem dX0_put_41 : decode cX0_put 41 = .ok (.iload_n 2, 1) := by decide +kernel
theorem dX0_put_42 : decode cX0_put 42 = .ok (.iastore, 1) := by decide +kernel
theorem dX0_put_43 : decode cX0_put 43 = .ok (.aload_n 0, 1) := by decide +kernel
theorem dX0_put_44 : decode cX0_put 44 = .ok (.getfield 18, 3) := by decide +kernel
theorem dX0_put_47 : decode cX0_put 47 = .ok (.iload 5, 2) := by decide +kernel
theorem dX0_put_49 : decode cX0_put 49 = .ok (.iload_n 3, 1) := by decide +kernel
theorem dX0_put_50 : decode cX0_put 50 = .ok (.iastore, 1) := by decide +kernel
theorem dX0_put_51 : decode cX0_put 51 = .ok (.aload_n 0, 1) := by decide +kernel
theorem dX0_put_52 : decode cX0_put 52 = .ok (.getfield 21, 3) := by decide +kernel
theorem dX0_put_55 : decode cX0_put 55 = .ok (.iload 5, 2) := by decide +kernel
theorem dX0_put_57 : decode cX0_put 57 = .ok (.iload 4, 2) := by decide +kernel
theorem dX0_put_59 : decode cX0_put 59 = .ok (.iastore, 1) := by decide +kernel
theorem dX0_put_60 : decode cX0_put 60 = .ok (.aload_n 0, 1) := by decide +kernel
theorem dX0_put_61 : decode cX0_put 61 = .ok (.dup, 1) := by decide +kernel
theorem dX0_put_62 : decode cX0_put 62 = .ok (.getfield 24, 3) := by decide +kernel
theorem dX0_put_65 : decode cX0_put 65 = .ok (.iconst 1, 1) := by decide +kernel
theorem dX0_put_66 : decode cX0_put 66 = .ok (.iadd, 1) := by decide +kernel
theorem dX0_put_67 : decode cX0_put 67 = .ok (.putfield 24, 3) := by decide +kernel
theorem dX0_put_70 : decode cX0_put 70 = .ok (.iconst 1, 1) := by decide +kernel
theorem dX0_put_71 : decode cX0_put 71 = .ok (.ireturn, 1) := by decide +kernel
theorem dX0_removeFirst_0 : decode cX0_removeFirst 0 = .ok (.aload_n 0, 1) := by decide +kernel
theorem dX0_removeFirst_1 : decode cX0_removeFirst 1 = .ok (.getfield 24, 3) := by decide +kernel
theorem dX0_removeFirst_4 : decode cX0_removeFirst 4 = .ok (.ifCond .le 27, 3) := by decide +kernel
theorem dX0_removeFirst_7 : decode cX0_removeFirst 7 = .ok (.aload_n 0, 1) := by decide +kernel
theorem dX0_removeFirst_8 : decode cX0_removeFirst 8 = .ok (.aload_n 0, 1) := by decide +kernel
theorem dX0_removeFirst_9 : decode cX0_removeFirst 9 = .ok (.getfield 28, 3) := by decide +kernel
theorem dX0_removeFirst_12 : decode cX0_removeFirst 12 = .ok (.iconst 1, 1) := by decide +kernel
theorem dX0_removeFirst_13 : decode cX0_removeFirst 13 = .ok (.iadd, 1) := by decide +kernel
theorem dX0_removeFirst_14 : decode cX0_removeFirst 14 = .ok (.sipush 200, 3) := by decide +kernel
theorem dX0_removeFirst_17 : decode cX0_removeFirst 17 = .ok (.irem, 1) := by decide +kernel
theorem dX0_removeFirst_18 : decode cX0_removeFirst 18 = .ok (.putfield 28, 3) := by decide +kernel
theorem dX0_removeFirst_21 : decode cX0_removeFirst 21 = .ok (.aload_n 0, 1) := by decide +kernel
theorem dX0_removeFirst_22 : decode cX0_removeFirst 22 = .ok (.dup, 1) := by decide +kernel
theorem dX0_removeFirst_23 : decode cX0_removeFirst 23 = .ok (.getfield 24, 3) := by decide +kernel
theorem dX0_removeFirst_26 : decode cX0_removeFirst 26 = .ok (.iconst 1, 1) := by decide +kernel
theorem dX0_removeFirst_27 : decode cX0_removeFirst 27 = .ok (.isub, 1) := by decide +kernel
theorem dX0_removeFirst_28 : decode cX0_removeFirst 28 = .ok (.putfield 24, 3) := by decide +kernel
theorem dX0_removeFirst_31 : decode cX0_removeFirst 31 = .ok (.return_, 1) := by decide +kernel
theorem dX0_firstPacket_0 : decode cX0_firstPacket 0 = .ok (.aload_n 0, 1) := by decide +kernel
theorem dX0_firstPacket_1 : decode cX0_firstPacket 1 = .ok (.aload_n 0, 1) := by decide +kernel
theorem dX0_firstPacket_2 : decode cX0_firstPacket 2 = .ok (.getfield 9, 3) := by decide +kernel
theorem dX0_firstPacket_5 : decode cX0_firstPacket 5 = .ok (.invokevirtual 31, 3) := by decide +kernel
theorem dX0_firstPacket_8 : decode cX0_firstPacket 8 = .ok (.ireturn, 1) := by decide +kernel
theorem dX0_firstTree_0 : decode cX0_firstTree 0 = .ok (.aload_n 0, 1) := by decide +kernel
theorem dX0_firstTree_1 : decode cX0_firstTree 1 = .ok (.aload_n 0, 1) := by decide +kernel
theorem dX0_firstTree_2 : decode cX0_firstTree 2 = .ok (.getfield 15, 3) := by decide +kernel
theorem dX0_firstTree_5 : decode cX0_firstTree 5 = .ok (.invokevirtual 31, 3) := by decide +kernel
theorem dX0_firstTree_8 : decode cX0_firstTree 8 = .ok (.ireturn, 1) := by decide +kernel
theorem dX0_firstFrom_0 : decode cX0_firstFrom 0 = .ok (.aload_n 0, 1) := by decide +kernel
theorem dX0_firstFrom_1 : decode cX0_firstFrom 1 = .ok (.aload_n 0, 1) := by decide +kernel
theorem dX0_firstFrom_2 : decode cX0_firstFrom 2 = .ok (.getfield 18, 3) := by decide +kernel
theorem dX0_firstFrom_5 : decode cX0_firstFrom 5 = .ok (.invokevirtual 31, 3) := by decide +kernel
theorem dX0_firstFrom_8 : decode cX0_firstFrom 8 = .ok (.ireturn, 1) := by decide +kernel
theorem dX0_firstTo_0 : decode cX0_firstTo 0 = .ok (.aload_n 0, 1) := by decide +kernel
theorem dX0_firstTo_1 : decode cX0_firstTo 1 = .ok (.aload_n 0, 1) := by decide +kernel
theorem dX0_firstTo_2 : decode cX0_firstTo 2 = .ok (.getfield 21, 3) := by decide +kernel
theorem dX0_firstTo_5 : decode cX0_firstTo 5 = .ok (.invokevirtual 31, 3) := by decide +kernel
theorem dX0_firstTo_8 : decode cX0_firstTo 8 = .ok (.ireturn, 1) := by decide +kernel
theorem dX0_firstIn_0 : decode cX0_firstIn 0 = .ok (.aload_n 0, 1) := by decide +kernel
theorem dX0_firstIn_1 : decode cX0_firstIn 1 = .ok (.getfield 24, 3) := by decide +kernel
theorem dX0_firstIn_4 : decode cX0_firstIn 4 = .ok (.ifCond .le 28, 3) := by decide +kernel
theorem dX0_firstIn_7 : decode cX0_firstIn 7 = .ok (.aload_n 0, 1) := by decide +kernel
theorem dX0_firstIn_8 : decode cX0_firstIn 8 = .ok (.getfield 28, 3) := by decide +kernel
theorem dX0_firstIn_11 : decode cX0_firstIn 11 = .ok (.ifCond .lt 21, 3) := by decide +kernel
theorem dX0_firstIn_14 : decode cX0_firstIn 14 = .ok (.aload_n 0, 1) := by decide +kernel
theorem dX0_firstIn_15 : decode cX0_firstIn 15 = .ok (.getfield 28, 3) := by decide +kernel
theorem dX0_firstIn_18 : decode cX0_firstIn 18 = .ok (.aload_n 1, 1) := by decide +kernel
theorem dX0_firstIn_19 : decode cX0_firstIn 19 = .ok (.arraylength, 1) := by decide +kernel
theorem dX0_firstIn_20 : decode cX0_firstIn 20 = .ok (.if_icmp .ge 12, 3) := by decide +kernel
theorem dX0_firstIn_23 : decode cX0_firstIn 23 = .ok (.aload_n 1, 1) := by decide +kernel
theorem dX0_firstIn_24 : decode cX0_firstIn 24 = .ok (.aload_n 0, 1) := by decide +kernel
theorem dX0_firstIn_25 : decode cX0_firstIn 25 = .ok (.getfield 28, 3) := by decide +kernel
theorem dX0_firstIn_28 : decode cX0_firstIn 28 = .ok (.iaload, 1) := by decide +kernel
theorem dX0_firstIn_29 : decode cX0_firstIn 29 = .ok (.goto 4, 3) := by decide +kernel
theorem dX0_firstIn_32 : decode cX0_firstIn 32 = .ok (.iconst (-1), 1) := by decide +kernel
theorem dX0_firstIn_33 : decode cX0_firstIn 33 = .ok (.ireturn, 1) := by decide +kernel
