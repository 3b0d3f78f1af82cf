theorem dX5_init_0 : decode cX5_init 0 = .ok (.aload_n 0, 1) := by decide +kernel
theorem dX5_init_1 : decode cX5_init 1 = .ok (.invokespecial 3, 3) := by decide +kernel
theorem dX5_init_4 : decode cX5_init 4 = .ok (.aload_n 0, 1) := by decide +kernel
theorem dX5_init_5 : decode cX5_init 5 = .ok (.new 9, 3) := by decide +kernel
theorem dX5_init_8 : decode cX5_init 8 = .ok (.dup, 1) := by decide +kernel
theorem dX5_init_9 : decode cX5_init 9 = .ok (.invokespecial 11, 3) := by decide +kernel
theorem dX5_init_12 : decode cX5_init 12 = .ok (.putfield 12, 3) := by decide +kernel
theorem dX5_init_15 : decode cX5_init 15 = .ok (.aload_n 0, 1) := by decide +kernel
theorem dX5_init_16 : decode cX5_init 16 = .ok (.new 16, 3) := by decide +kernel
theorem dX5_init_19 : decode cX5_init 19 = .ok (.dup, 1) := by decide +kernel
theorem dX5_init_20 : decode cX5_init 20 = .ok (.invokespecial 18, 3) := by decide +kernel
theorem dX5_init_23 : decode cX5_init 23 = .ok (.putfield 19, 3) := by decide +kernel
theorem dX5_init_26 : decode cX5_init 26 = .ok (.aload_n 0, 1) := by decide +kernel
theorem dX5_init_27 : decode cX5_init 27 = .ok (.new 23, 3) := by decide +kernel
theorem dX5_init_30 : decode cX5_init 30 = .ok (.dup, 1) := by decide +kernel
theorem dX5_init_31 : decode cX5_init 31 = .ok (.invokespecial 25, 3) := by decide +kernel
theorem dX5_init_34 : decode cX5_init 34 = .ok (.putfield 26, 3) := by decide +kernel
theorem dX5_init_37 : decode cX5_init 37 = .ok (.aload_n 0, 1) := by decide +kernel
theorem dX5_init_38 : decode cX5_init 38 = .ok (.new 30, 3) := by decide +kernel
theorem dX5_init_41 : decode cX5_init 41 = .ok (.dup, 1) := by decide +kernel
theorem dX5_init_42 : decode cX5_init 42 = .ok (.invokespecial 32, 3) := by decide +kernel
theorem dX5_init_45 : decode cX5_init 45 = .ok (.putfield 33, 3) := by decide +kernel
theorem dX5_init_48 : decode cX5_init 48 = .ok (.aload_n 0, 1) := by decide +kernel
theorem dX5_init_49 : decode cX5_init 49 = .ok (.new 37, 3) := by decide +kernel
theorem dX5_init_52 : decode cX5_init 52 = .ok (.dup, 1) := by decide +kernel
theorem dX5_init_53 : decode cX5_init 53 = .ok (.invokespecial 39, 3) := by decide +kernel
theorem dX5_init_56 : decode cX5_init 56 = .ok (.putfield 40, 3) := by decide +kernel
theorem dX5_init_59 : decode cX5_init 59 = .ok (.aload_n 0, 1) := by decide +kernel
theorem dX5_init_60 : decode cX5_init 60 = .ok (.iconst 3, 1) := by decide +kernel
theorem dX5_init_61 : decode cX5_init 61 = .ok (.putfield 44, 3) := by decide +kernel
theorem dX5_init_64 : decode cX5_init 64 = .ok (.return_, 1) := by decide +kernel
theorem dX5_setLink_0 : decode cX5_setLink 0 = .ok (.iload_n 1, 1) := by decide +kernel
theorem dX5_setLink_1 : decode cX5_setLink 1 = .ok (.invokestatic 48, 3) := by decide +kernel
theorem dX5_setLink_4 : decode cX5_setLink 4 = .ok (.iload_n 2, 1) := by decide +kernel
theorem dX5_setLink_5 : decode cX5_setLink 5 = .ok (.invokestatic 48, 3) := by decide +kernel
theorem dX5_setLink_8 : decode cX5_setLink 8 = .ok (.iload_n 1, 1) := by decide +kernel
theorem dX5_setLink_9 : decode cX5_setLink 9 = .ok (.iload_n 2, 1) := by decide +kernel
theorem dX5_setLink_10 : decode cX5_setLink 10 = .ok (.if_icmp .eq 13, 3) := by decide +kernel
theorem dX5_setLink_13 : decode cX5_setLink 13 = .ok (.iload_n 3, 1) := by decide +kernel
theorem dX5_setLink_14 : decode cX5_setLink 14 = .ok (.ifCond .lt 9, 3) := by decide +kernel
theorem dX5_setLink_17 : decode cX5_setLink 17 = .ok (.iload_n 3, 1) := by decide +kernel
theorem dX5_setLink_18 : decode cX5_setLink 18 = .ok (.bipush 20, 2) := by decide +kernel
theorem dX5_setLink_20 : decode cX5_setLink 20 = .ok (.if_icmp .le 13, 3) := by decide +kernel
theorem dX5_setLink_23 : decode cX5_setLink 23 = .ok (.new 52, 3) := by decide +kernel
theorem dX5_setLink_26 : decode cX5_setLink 26 = .ok (.dup, 1) := by decide +kernel
theorem dX5_setLink_27 : decode cX5_setLink 27 = .ok (.ldc 54, 2) := by decide +kernel
theorem dX5_setLink_29 : decode cX5_setLink 29 = .ok (.invokespecial 56, 3) := by decide +kernel
theorem dX5_setLink_32 : decode cX5_setLink 32 = .ok (.athrow, 1) := by decide +kernel
theorem dX5_setLink_33 : decode cX5_setLink 33 = .ok (.aload_n 0, 1) := by decide +kernel
theorem dX5_setLink_34 : decode cX5_setLink 34 = .ok (.getfield 12, 3) := by decide +kernel
theorem dX5_setLink_37 : decode cX5_setLink 37 = .ok (.iload_n 1, 1) := by decide +kernel
theorem dX5_setLink_38 : decode cX5_setLink 38 = .ok (.iload_n 2, 1) := by decide +kernel
theorem dX5_setLink_39 : decode cX5_setLink 39 = .ok (.invokevirtual 59, 3) := by decide +kernel
theorem dX5_setLink_42 : decode cX5_setLink 42 = .ok (.istore 4, 2) := by decide +kernel
theorem dX5_setLink_44 : decode cX5_setLink 44 = .ok (.iload 4, 2) := by decide +kernel
theorem dX5_setLink_46 : decode cX5_setLink 46 = .ok (.iload_n 3, 1) := by decide +kernel
theorem dX5_setLink_47 : decode cX5_setLink 47 = .ok (.if_icmp .eq 24, 3) := by decide +kernel
theorem dX5_setLink_50 : decode cX5_setLink 50 = .ok (.aload_n 0, 1) := by decide +kernel
theorem dX5_setLink_51 : decode cX5_setLink 51 = .ok (.getfield 12, 3) := by decide +kernel
theorem dX5_setLink_54 : decode cX5_setLink 54 = .ok (.iload_n 1, 1) := by decide +kernel
theorem dX5_setLink_55 : decode cX5_setLink 55 = .ok (.iload_n 2, 1) := by decide +kernel
theorem dX5_setLink_56 : decode cX5_setLink 56 = .ok (.iload_n 3, 1) := by decide +kernel
theorem dX5_setLink_57 : decode cX5_setLink 57 = .ok (.invokevirtual 63, 3) := by decide +kernel
theorem dX5_setLink_60 : decode cX5_setLink 60 = .ok (.aload_n 0, 1) := by decide +kernel
theorem dX5_setLink_61 : decode cX5_setLink 61 = .ok (.getfield 19, 3) := by decide +kernel
theorem dX5_setLink_64 : decode cX5_setLink 64 = .ok (.aload_n 0, 1) := by decide +kernel
theorem dX5_setLink_65 : decode cX5_setLink 65 = .ok (.getfield 12, 3) := by decide +kernel
theorem dX5_setLink_68 : decode cX5_setLink 68 = .ok (.invokevirtual 67, 3) := by decide +kernel
theorem dX5_setLink_71 : decode cX5_setLink 71 = .ok (.iload 4, 2) := by decide +kernel
theorem dX5_setLink_73 : decode cX5_setLink 73 = .ok (.ireturn, 1) := by decide +kernel
theorem dX5_setCandidate_0 : decode cX5_setCandidate 0 = .ok (.iload_n 1, 1) := by decide +kernel
theorem dX5_setCandidate_1 : decode cX5_setCandidate 1 = .ok (.invokestatic 48, 3) := by decide +kernel
theorem dX5_setCandidate_4 : decode cX5_setCandidate 4 = .ok (.aload_n 0, 1) := by decide +kernel
theorem dX5_setCandidate_5 : decode cX5_setCandidate 5 = .ok (.getfield 71, 3) := by decide +kernel
theorem dX5_setCandidate_8 : decode cX5_setCandidate 8 = .ok (.iload_n 1, 1) := by decide +kernel
theorem dX5_setCandidate_9 : decode cX5_setCandidate 9 = .ok (.invokestatic 74, 3) := by decide +kernel
theorem dX5_setCandidate_12 : decode cX5_setCandidate 12 = .ok (.iload_n 2, 1) := by decide +kernel
theorem dX5_setCandidate_13 : decode cX5_setCandidate 13 = .ok (.if_icmp .ne 5, 3) := by decide +kernel
theorem dX5_setCandidate_16 : decode cX5_setCandidate 16 = .ok (.iconst 0, 1) := by decide +kernel
theorem dX5_setCandidate_17 : decode cX5_setCandidate 17 = .ok (.ireturn, 1) := by decide +kernel
theorem dX5_setCandidate_18 : decode cX5_setCandidate 18 = .ok (.aload_n 0, 1) := by decide +kernel
theorem dX5_setCandidate_19 : decode cX5_setCandidate 19 = .ok (.dup, 1) := by decide +kernel
theorem dX5_setCandidate_20 : decode cX5_setCandidate 20 = .ok (.getfield 71, 3) := by decide +kernel
theorem dX5_setCandidate_23 : decode cX5_setCandidate 23 = .ok (.iload_n 1, 1) := by decide +kernel
theorem dX5_setCandidate_24 : decode cX5_setCandidate 24 = .ok (.invokestatic 78, 3) := by decide +kernel
theorem dX5_setCandidate_27 : decode cX5_setCandidate 27 = .ok (.ixor, 1) := by decide +kernel
theorem dX5_setCandidate_28 : decode cX5_setCandidate 28 = .ok (.putfield 71, 3) := by decide +kernel
theorem dX5_setCandidate_31 : decode cX5_setCandidate 31 = .ok (.iconst 0, 1) := by decide +kernel
theorem dX5_setCandidate_32 : decode cX5_setCandidate 32 = .ok (.istore_n 3, 1) := by decide +kernel
theorem dX5_setCandidate_33 : decode cX5_setCandidate 33 = .ok (.iload_n 3, 1) := by decide +kernel
theorem dX5_setCandidate_34 : decode cX5_setCandidate 34 = .ok (.iconst 4, 1) := by decide +kernel
theorem dX5_setCandidate_35 : decode cX5_setCandidate 35 = .ok (.if_icmp .ge 25, 3) := by decide +kernel
theorem dX5_setCandidate_38 : decode cX5_setCandidate 38 = .ok (.aload_n 0, 1) := by decide +kernel
theorem dX5_setCandidate_39 : decode cX5_setCandidate 39 = .ok (.getfield 19, 3) := by decide +kernel
theorem dX5_setCandidate_42 : decode cX5_setCandidate 42 = .ok (.iload_n 3, 1) := by decide +kernel
theorem dX5_setCandidate_43 : decode cX5_setCandidate 43 = .ok (.invokestatic 82, 3) := by decide +kernel
theorem dX5_setCandidate_46 : decode cX5_setCandidate 46 = .ok (.aload_n 0, 1) := by decide +kernel
theorem dX5_setCandidate_47 : decode cX5_setCandidate 47 = .ok (.iload_n 3, 1) := by decide +kernel
theorem dX5_setCandidate_48 : decode cX5_setCandidate 48 = .ok (.invokevirtual 85, 3) := by decide +kernel
theorem dX5_setCandidate_51 : decode cX5_setCandidate 51 = .ok (.invokevirtual 88, 3) := by decide +kernel
theorem dX5_setCandidate_54 : decode cX5_setCandidate 54 = .ok (.iinc 3 1, 3) := by decide +kernel
theorem dX5_setCandidate_57 : decode cX5_setCandidate 57 = .ok (.goto (-24), 3) := by decide +kernel
theorem dX5_setCandidate_60 : decode cX5_setCandidate 60 = .ok (.aload_n 0, 1) := by decide +kernel
theorem dX5_setCandidate_61 : decode cX5_setCandidate 61 = .ok (.getfield 19, 3) := by decide +kernel
theorem dX5_setCandidate_64 : decode cX5_setCandidate 64 = .ok (.aload_n 0, 1) := by decide +kernel
theorem dX5_setCandidate_65 : decode cX5_setCandidate 65 = .ok (.getfield 12, 3) := by decide +kernel
theorem dX5_setCandidate_68 : decode cX5_setCandidate 68 = .ok (.invokevirtual 67, 3) := by decide +kernel
theorem dX5_setCandidate_71 : decode cX5_setCandidate 71 = .ok (.iconst 1, 1) := by decide +kernel
theorem dX5_setCandidate_72 : decode cX5_setCandidate 72 = .ok (.ireturn, 1) := by decide +kernel
theorem dX5_setLimit_0 : decode cX5_setLimit 0 = .ok (.iload_n 1, 1) := by decide +kernel
theorem dX5_setLimit_1 : decode cX5_setLimit 1 = .ok (.iconst 1, 1) := by decide +kernel
theorem dX5_setLimit_2 : decode cX5_setLimit 2 = .ok (.if_icmp .lt 9, 3) := by decide +kernel
theorem dX5_setLimit_5 : decode cX5_setLimit 5 = .ok (.iload_n 1, 1) := by decide +kernel
theorem dX5_setLimit_6 : decode cX5_setLimit 6 = .ok (.bipush 100, 2) := by decide +kernel
theorem dX5_setLimit_8 : decode cX5_setLimit 8 = .ok (.if_icmp .le 13, 3) := by decide +kernel
theorem dX5_setLimit_11 : decode cX5_setLimit 11 = .ok (.new 52, 3) := by decide +kernel
theorem dX5_setLimit_14 : decode cX5_setLimit 14 = .ok (.dup, 1) := by decide +kernel
theorem dX5_setLimit_15 : decode cX5_setLimit 15 = .ok (.ldc 92, 2) := by decide +kernel
theorem dX5_setLimit_17 : decode cX5_setLimit 17 = .ok (.invokespecial 56, 3) := by decide +kernel
theorem dX5_setLimit_20 : decode cX5_setLimit 20 = .ok (.athrow, 1) := by decide +kernel
theorem dX5_setLimit_21 : decode cX5_setLimit 21 = .ok (.aload_n 0, 1) := by decide +kernel
theorem dX5_setLimit_22 : decode cX5_setLimit 22 = .ok (.getfield 44, 3) := by decide +kernel
theorem dX5_setLimit_25 : decode cX5_setLimit 25 = .ok (.istore_n 2, 1) := by decide +kernel
theorem dX5_setLimit_26 : decode cX5_setLimit 26 = .ok (.aload_n 0, 1) := by decide +kernel
theorem dX5_setLimit_27 : decode cX5_setLimit 27 = .ok (.iload_n 1, 1) := by decide +kernel
theorem dX5_setLimit_28 : decode cX5_setLimit 28 = .ok (.putfield 44, 3) := by decide +kernel
theorem dX5_setLimit_31 : decode cX5_setLimit 31 = .ok (.iload_n 2, 1) := by decide +kernel
theorem dX5_setLimit_32 : decode cX5_setLimit 32 = .ok (.ireturn, 1) := by decide +kernel
theorem dX5_distance_0 : decode cX5_distance 0 = .ok (.iload_n 1, 1) := by decide +kernel
theorem dX5_distance_1 : decode cX5_distance 1 = .ok (.invokestatic 48, 3) := by decide +kernel
theorem dX5_distance_4 : decode cX5_distance 4 = .ok (.iload_n 2, 1) := by decide +kernel
theorem dX5_distance_5 : decode cX5_distance 5 = .ok (.invokestatic 48, 3) := by decide +kernel
theorem dX5_distance_8 : decode cX5_distance 8 = .ok (.aload_n 0, 1) := by decide +kernel
theorem dX5_distance_9 : decode cX5_distance 9 = .ok (.getfield 12, 3) := by decide +kernel
theorem dX5_distance_12 : decode cX5_distance 12 = .ok (.iload_n 1, 1) := by decide +kernel
theorem dX5_distance_13 : decode cX5_distance 13 = .ok (.iload_n 2, 1) := by decide +kernel
theorem dX5_distance_14 : decode cX5_distance 14 = .ok (.invokevirtual 94, 3) := by decide +kernel
theorem dX5_distance_17 : decode cX5_distance 17 = .ok (.ireturn, 1) := by decide +kernel
theorem dX5_nextHop_0 : decode cX5_nextHop 0 = .ok (.iload_n 1, 1) := by decide +kernel
theorem dX5_nextHop_1 : decode cX5_nextHop 1 = .ok (.invokestatic 48, 3) := by decide +kernel
theorem dX5_nextHop_4 : decode cX5_nextHop 4 = .ok (.iload_n 2, 1) := by decide +kernel
theorem dX5_nextHop_5 : decode cX5_nextHop 5 = .ok (.invokestatic 48, 3) := by decide +kernel
theorem dX5_nextHop_8 : decode cX5_nextHop 8 = .ok (.aload_n 0, 1) := by decide +kernel
theorem dX5_nextHop_9 : decode cX5_nextHop 9 = .ok (.getfield 12, 3) := by decide +kernel
theorem dX5_nextHop_12 : decode cX5_nextHop 12 = .ok (.iload_n 1, 1) := by decide +kernel
theorem dX5_nextHop_13 : decode cX5_nextHop 13 = .ok (.iload_n 2, 1) := by decide +kernel
theorem dX5_nextHop_14 : decode cX5_nextHop 14 = .ok (.invokevirtual 97, 3) := by decide +kernel
theorem dX5_nextHop_17 : decode cX5_nextHop 17 = .ok (.ireturn, 1) := by decide +kernel
theorem dX5_rendezvous_0 : decode cX5_rendezvous 0 = .ok (.iload_n 1, 1) := by decide +kernel
theorem dX5_rendezvous_1 : decode cX5_rendezvous 1 = .ok (.invokestatic 100, 3) := by decide +kernel
theorem dX5_rendezvous_4 : decode cX5_rendezvous 4 = .ok (.aload_n 0, 1) := by decide +kernel
theorem dX5_rendezvous_5 : decode cX5_rendezvous 5 = .ok (.getfield 19, 3) := by decide +kernel
theorem dX5_rendezvous_8 : decode cX5_rendezvous 8 = .ok (.iload_n 1, 1) := by decide +kernel
theorem dX5_rendezvous_9 : decode cX5_rendezvous 9 = .ok (.invokestatic 82, 3) := by decide +kernel
theorem dX5_rendezvous_12 : decode cX5_rendezvous 12 = .ok (.invokevirtual 103, 3) := by decide +kernel
theorem dX5_rendezvous_15 : decode cX5_rendezvous 15 = .ok (.ireturn, 1) := by decide +kernel
theorem dX5_join_0 : decode cX5_join 0 = .ok (.iload_n 1, 1) := by decide +kernel
theorem dX5_join_1 : decode cX5_join 1 = .ok (.invokestatic 48, 3) := by decide +kernel
theorem dX5_join_4 : decode cX5_join 4 = .ok (.iload_n 2, 1) := by decide +kernel
theorem dX5_join_5 : decode cX5_join 5 = .ok (.invokestatic 100, 3) := by decide +kernel
theorem dX5_join_8 : decode cX5_join 8 = .ok (.aload_n 0, 1) := by decide +kernel
theorem dX5_join_9 : decode cX5_join 9 = .ok (.iload_n 1, 1) := by decide +kernel
theorem dX5_join_10 : decode cX5_join 10 = .ok (.iload_n 2, 1) := by decide +kernel
theorem dX5_join_11 : decode cX5_join 11 = .ok (.invokevirtual 106, 3) := by decide +kernel
theorem dX5_join_14 : decode cX5_join 14 = .ok (.ifCond .eq 13, 3) := by decide +kernel
theorem dX5_join_17 : decode cX5_join 17 = .ok (.new 109, 3) := by decide +kernel
theorem dX5_join_20 : decode cX5_join 20 = .ok (.dup, 1) := by decide +kernel
theorem dX5_join_21 : decode cX5_join 21 = .ok (.ldc 111, 2) := by decide +kernel
theorem dX5_join_23 : decode cX5_join 23 = .ok (.invokespecial 113, 3) := by decide +kernel
theorem dX5_join_26 : decode cX5_join 26 = .ok (.athrow, 1) := by decide +kernel
theorem dX5_join_27 : decode cX5_join 27 = .ok (.aload_n 0, 1) := by decide +kernel
theorem dX5_join_28 : decode cX5_join 28 = .ok (.getfield 19, 3) := by decide +kernel
theorem dX5_join_31 : decode cX5_join 31 = .ok (.iload_n 2, 1) := by decide +kernel
theorem dX5_join_32 : decode cX5_join 32 = .ok (.invokestatic 82, 3) := by decide +kernel
theorem dX5_join_35 : decode cX5_join 35 = .ok (.iload_n 1, 1) := by decide +kernel
theorem dX5_join_36 : decode cX5_join 36 = .ok (.aload_n 0, 1) := by decide +kernel
theorem dX5_join_37 : decode cX5_join 37 = .ok (.getfield 12, 3) := by decide +kernel
theorem dX5_join_40 : decode cX5_join 40 = .ok (.invokevirtual 114, 3) := by decide +kernel
theorem dX5_join_43 : decode cX5_join 43 = .ok (.aload_n 0, 1) := by decide +kernel
theorem dX5_join_44 : decode cX5_join 44 = .ok (.iload_n 2, 1) := by decide +kernel
theorem dX5_join_45 : decode cX5_join 45 = .ok (.invokevirtual 118, 3) := by decide +kernel
theorem dX5_join_48 : decode cX5_join 48 = .ok (.invokestatic 121, 3) := by decide +kernel
theorem dX5_join_51 : decode cX5_join 51 = .ok (.ireturn, 1) := by decide +kernel
theorem dX5_leave_0 : decode cX5_leave 0 = .ok (.iload_n 1, 1) := by decide +kernel
theorem dX5_leave_1 : decode cX5_leave 1 = .ok (.invokestatic 48, 3) := by decide +kernel
theorem dX5_leave_4 : decode cX5_leave 4 = .ok (.iload_n 2, 1) := by decide +kernel
theorem dX5_leave_5 : decode cX5_leave 5 = .ok (.invokestatic 100, 3) := by decide +kernel
theorem dX5_leave_8 : decode cX5_leave 8 = .ok (.aload_n 0, 1) := by decide +kernel
theorem dX5_leave_9 : decode cX5_leave 9 = .ok (.iload_n 1, 1) := by decide +kernel
theorem dX5_leave_10 : decode cX5_leave 10 = .ok (.iload_n 2, 1) := by decide +kernel
theorem dX5_leave_11 : decode cX5_leave 11 = .ok (.invokevirtual 106, 3) := by decide +kernel
theorem dX5_leave_14 : decode cX5_leave 14 = .ok (.ifCond .ne 13, 3) := by decide +kernel
theorem dX5_leave_17 : decode cX5_leave 17 = .ok (.new 109, 3) := by decide +kernel
theorem dX5_leave_20 : decode cX5_leave 20 = .ok (.dup, 1) := by decide +kernel
theorem dX5_leave_21 : decode cX5_leave 21 = .ok (.ldc 126, 2) := by decide +kernel
theorem dX5_leave_23 : decode cX5_leave 23 = .ok (.invokespecial 113, 3) := by decide +kernel
theorem dX5_leave_26 : decode cX5_leave 26 = .ok (.athrow, 1) := by decide +kernel
theorem dX5_leave_27 : decode cX5_leave 27 = .ok (.aload_n 0, 1) := by decide +kernel
theorem dX5_leave_28 : decode cX5_leave 28 = .ok (.getfield 19, 3) := by decide +kernel
theorem dX5_leave_31 : decode cX5_leave 31 = .ok (.iload_n 2, 1) := by decide +kernel
theorem dX5_leave_32 : decode cX5_leave 32 = .ok (.invokestatic 82, 3) := by decide +kernel
theorem dX5_leave_35 : decode cX5_leave 35 = .ok (.iload_n 1, 1) := by decide +kernel
theorem dX5_leave_36 : decode cX5_leave 36 = .ok (.aload_n 0, 1) := by decide +kernel
theorem dX5_leave_37 : decode cX5_leave 37 = .ok (.getfield 128, 3) := by decide +kernel
theorem dX5_leave_40 : decode cX5_leave 40 = .ok (.invokevirtual 131, 3) := by decide +kernel
theorem dX5_leave_43 : decode cX5_leave 43 = .ok (.iconst 0, 1) := by decide +kernel
theorem dX5_leave_44 : decode cX5_leave 44 = .ok (.istore_n 3, 1) := by decide +kernel
theorem dX5_leave_45 : decode cX5_leave 45 = .ok (.iload_n 3, 1) := by decide +kernel
theorem dX5_leave_46 : decode cX5_leave 46 = .ok (.bipush 10, 2) := by decide +kernel
theorem dX5_leave_48 : decode cX5_leave 48 = .ok (.if_icmp .ge 36, 3) := by decide +kernel
theorem dX5_leave_51 : decode cX5_leave 51 = .ok (.aload_n 0, 1) := by decide +kernel
theorem dX5_leave_52 : decode cX5_leave 52 = .ok (.getfield 19, 3) := by decide +kernel
theorem dX5_leave_55 : decode cX5_leave 55 = .ok (.iload_n 3, 1) := by decide +kernel
theorem dX5_leave_56 : decode cX5_leave 56 = .ok (.iload_n 2, 1) := by decide +kernel
theorem dX5_leave_57 : decode cX5_leave 57 = .ok (.invokestatic 134, 3) := by decide +kernel
theorem dX5_leave_60 : decode cX5_leave 60 = .ok (.iload_n 1, 1) := by decide +kernel
theorem dX5_leave_61 : decode cX5_leave 61 = .ok (.aload_n 0, 1) := by decide +kernel
theorem dX5_leave_62 : decode cX5_leave 62 = .ok (.getfield 128, 3) := by decide +kernel
theorem dX5_leave_65 : decode cX5_leave 65 = .ok (.invokevirtual 131, 3) := by decide +kernel
theorem dX5_leave_68 : decode cX5_leave 68 = .ok (.aload_n 0, 1) := by decide +kernel
theorem dX5_leave_69 : decode cX5_leave 69 = .ok (.getfield 40, 3) := by decide +kernel
theorem dX5_leave_72 : decode cX5_leave 72 = .ok (.iload_n 1, 1) := by decide +kernel
theorem dX5_leave_73 : decode cX5_leave 73 = .ok (.iload_n 3, 1) := by decide +kernel
theorem dX5_leave_74 : decode cX5_leave 74 = .ok (.iload_n 2, 1) := by decide +kernel
theorem dX5_leave_75 : decode cX5_leave 75 = .ok (.invokevirtual 137, 3) := by decide +kernel
theorem dX5_leave_78 : decode cX5_leave 78 = .ok (.iinc 3 1, 3) := by decide +kernel
theorem dX5_leave_81 : decode cX5_leave 81 = .ok (.goto (-36), 3) := by decide +kernel
theorem dX5_leave_84 : decode cX5_leave 84 = .ok (.aload_n 0, 1) := by decide +kernel
theorem dX5_leave_85 : decode cX5_leave 85 = .ok (.iload_n 2, 1) := by decide +kernel
theorem dX5_leave_86 : decode cX5_leave 86 = .ok (.invokevirtual 118, 3) := by decide +kernel
theorem dX5_leave_89 : decode cX5_leave 89 = .ok (.invokestatic 121, 3) := by decide +kernel
theorem dX5_leave_92 : decode cX5_leave 92 = .ok (.ireturn, 1) := by decide +kernel
theorem dX5_members_0 : decode cX5_members 0 = .ok (.iload_n 1, 1) := by decide +kernel
theorem dX5_members_1 : decode cX5_members 1 = .ok (.invokestatic 100, 3) := by decide +kernel
theorem dX5_members_4 : decode cX5_members 4 = .ok (.aload_n 0, 1) := by decide +kernel
theorem dX5_members_5 : decode cX5_members 5 = .ok (.iload_n 1, 1) := by decide +kernel
theorem dX5_members_6 : decode cX5_members 6 = .ok (.invokevirtual 118, 3) := by decide +kernel
theorem dX5_members_9 : decode cX5_members 9 = .ok (.ireturn, 1) := by decide +kernel
theorem dX5_switched_0 : decode cX5_switched 0 = .ok (.iload_n 1, 1) := by decide +kernel
theorem dX5_switched_1 : decode cX5_switched 1 = .ok (.invokestatic 48, 3) := by decide +kernel
theorem dX5_switched_4 : decode cX5_switched 4 = .ok (.iload_n 2, 1) := by decide +kernel
theorem dX5_switched_5 : decode cX5_switched 5 = .ok (.invokestatic 100, 3) := by decide +kernel
theorem dX5_switched_8 : decode cX5_switched 8 = .ok (.aload_n 0, 1) := by decide +kernel
theorem dX5_switched_9 : decode cX5_switched 9 = .ok (.getfield 19, 3) := by decide +kernel
theorem dX5_switched_12 : decode cX5_switched 12 = .ok (.iload_n 1, 1) := by decide +kernel
theorem dX5_switched_13 : decode cX5_switched 13 = .ok (.iload_n 2, 1) := by decide +kernel
theorem dX5_switched_14 : decode cX5_switched 14 = .ok (.invokestatic 134, 3) := by decide +kernel
theorem dX5_switched_17 : decode cX5_switched 17 = .ok (.invokevirtual 140, 3) := by decide +kernel
theorem dX5_switched_20 : decode cX5_switched 20 = .ok (.ireturn, 1) := by decide +kernel
theorem dX5_branches_0 : decode cX5_branches 0 = .ok (.iload_n 1, 1) := by decide +kernel
theorem dX5_branches_1 : decode cX5_branches 1 = .ok (.invokestatic 48, 3) := by decide +kernel
theorem dX5_branches_4 : decode cX5_branches 4 = .ok (.iload_n 2, 1) := by decide +kernel
theorem dX5_branches_5 : decode cX5_branches 5 = .ok (.invokestatic 100, 3) := by decide +kernel
theorem dX5_branches_8 : decode cX5_branches 8 = .ok (.aload_n 0, 1) := by decide +kernel
theorem dX5_branches_9 : decode cX5_branches 9 = .ok (.getfield 19, 3) := by decide +kernel
theorem dX5_branches_12 : decode cX5_branches 12 = .ok (.iload_n 2, 1) := by decide +kernel
theorem dX5_branches_13 : decode cX5_branches 13 = .ok (.invokestatic 82, 3) := by decide +kernel
theorem dX5_branches_16 : decode cX5_branches 16 = .ok (.iload_n 1, 1) := by decide +kernel
theorem dX5_branches_17 : decode cX5_branches 17 = .ok (.invokevirtual 143, 3) := by decide +kernel
theorem dX5_branches_20 : decode cX5_branches 20 = .ok (.ireturn, 1) := by decide +kernel
theorem dX5_sourceBranches_0 : decode cX5_sourceBranches 0 = .ok (.iload_n 1, 1) := by decide +kernel
theorem dX5_sourceBranches_1 : decode cX5_sourceBranches 1 = .ok (.invokestatic 48, 3) := by decide +kernel
theorem dX5_sourceBranches_4 : decode cX5_sourceBranches 4 = .ok (.iload_n 2, 1) := by decide +kernel
theorem dX5_sourceBranches_5 : decode cX5_sourceBranches 5 = .ok (.invokestatic 48, 3) := by decide +kernel
theorem dX5_sourceBranches_8 : decode cX5_sourceBranches 8 = .ok (.iload_n 3, 1) := by decide +kernel
theorem dX5_sourceBranches_9 : decode cX5_sourceBranches 9 = .ok (.invokestatic 100, 3) := by decide +kernel
theorem dX5_sourceBranches_12 : decode cX5_sourceBranches 12 = .ok (.aload_n 0, 1) := by decide +kernel
theorem dX5_sourceBranches_13 : decode cX5_sourceBranches 13 = .ok (.getfield 19, 3) := by decide +kernel
theorem dX5_sourceBranches_16 : decode cX5_sourceBranches 16 = .ok (.iload_n 2, 1) := by decide +kernel
theorem dX5_sourceBranches_17 : decode cX5_sourceBranches 17 = .ok (.iload_n 3, 1) := by decide +kernel
theorem dX5_sourceBranches_18 : decode cX5_sourceBranches 18 = .ok (.invokestatic 134, 3) := by decide +kernel
theorem dX5_sourceBranches_21 : decode cX5_sourceBranches 21 = .ok (.iload_n 1, 1) := by decide +kernel
theorem dX5_sourceBranches_22 : decode cX5_sourceBranches 22 = .ok (.invokevirtual 143, 3) := by decide +kernel
theorem dX5_sourceBranches_25 : decode cX5_sourceBranches 25 = .ok (.ireturn, 1) := by decide +kernel
theorem dX5_leaving_0 : decode cX5_leaving 0 = .ok (.aload_n 0, 1) := by decide +kernel
theorem dX5_leaving_1 : decode cX5_leaving 1 = .ok (.getfield 19, 3) := by decide +kernel
theorem dX5_leaving_4 : decode cX5_leaving 4 = .ok (.invokevirtual 146, 3) := by decide +kernel
theorem dX5_leaving_7 : decode cX5_leaving 7 = .ok (.ireturn, 1) := by decide +kernel
theorem dX5_send_0 : decode cX5_send 0 = .ok (.iload_n 1, 1) := by decide +kernel
theorem dX5_send_1 : decode cX5_send 1 = .ok (.invokestatic 48, 3) := by decide +kernel
theorem dX5_send_4 : decode cX5_send 4 = .ok (.iload_n 2, 1) := by decide +kernel
theorem dX5_send_5 : decode cX5_send 5 = .ok (.invokestatic 100, 3) := by decide +kernel
theorem dX5_send_8 : decode cX5_send 8 = .ok (.aload_n 0, 1) := by decide +kernel
theorem dX5_send_9 : decode cX5_send 9 = .ok (.getfield 26, 3) := by decide +kernel
theorem dX5_send_12 : decode cX5_send 12 = .ok (.invokevirtual 150, 3) := by decide +kernel
theorem dX5_send_15 : decode cX5_send 15 = .ok (.ifCond .eq 13, 3) := by decide +kernel
theorem dX5_send_18 : decode cX5_send 18 = .ok (.new 109, 3) := by decide +kernel
theorem dX5_send_21 : decode cX5_send 21 = .ok (.dup, 1) := by decide +kernel
theorem dX5_send_22 : decode cX5_send 22 = .ok (.ldc 154, 2) := by decide +kernel
theorem dX5_send_24 : decode cX5_send 24 = .ok (.invokespecial 113, 3) := by decide +kernel
theorem dX5_send_27 : decode cX5_send 27 = .ok (.athrow, 1) := by decide +kernel
theorem dX5_send_28 : decode cX5_send 28 = .ok (.aload_n 0, 1) := by decide +kernel
theorem dX5_send_29 : decode cX5_send 29 = .ok (.getfield 26, 3) := by decide +kernel
theorem dX5_send_32 : decode cX5_send 32 = .ok (.iload_n 1, 1) := by decide +kernel
theorem dX5_send_33 : decode cX5_send 33 = .ok (.iload_n 2, 1) := by decide +kernel
theorem dX5_send_34 : decode cX5_send 34 = .ok (.invokevirtual 156, 3) := by decide +kernel
theorem dX5_send_37 : decode cX5_send 37 = .ok (.istore_n 3, 1) := by decide +kernel
theorem dX5_send_38 : decode cX5_send 38 = .ok (.aload_n 0, 1) := by decide +kernel
theorem dX5_send_39 : decode cX5_send 39 = .ok (.iload_n 1, 1) := by decide +kernel
theorem dX5_send_40 : decode cX5_send 40 = .ok (.iload_n 2, 1) := by decide +kernel
theorem dX5_send_41 : decode cX5_send 41 = .ok (.invokevirtual 106, 3) := by decide +kernel
theorem dX5_send_44 : decode cX5_send 44 = .ok (.ifCond .eq 12, 3) := by decide +kernel
theorem dX5_send_47 : decode cX5_send 47 = .ok (.aload_n 0, 1) := by decide +kernel
theorem dX5_send_48 : decode cX5_send 48 = .ok (.getfield 26, 3) := by decide +kernel
theorem dX5_send_51 : decode cX5_send 51 = .ok (.iload_n 3, 1) := by decide +kernel
theorem dX5_send_52 : decode cX5_send 52 = .ok (.iload_n 1, 1) := by decide +kernel
theorem dX5_send_53 : decode cX5_send 53 = .ok (.invokevirtual 159, 3) := by decide +kernel
theorem dX5_send_56 : decode cX5_send 56 = .ok (.aload_n 0, 1) := by decide +kernel
theorem dX5_send_57 : decode cX5_send 57 = .ok (.getfield 19, 3) := by decide +kernel
theorem dX5_send_60 : decode cX5_send 60 = .ok (.iload_n 2, 1) := by decide +kernel
theorem dX5_send_61 : decode cX5_send 61 = .ok (.invokestatic 82, 3) := by decide +kernel
theorem dX5_send_64 : decode cX5_send 64 = .ok (.invokevirtual 103, 3) := by decide +kernel
theorem dX5_send_67 : decode cX5_send 67 = .ok (.istore 4, 2) := by decide +kernel
theorem dX5_send_69 : decode cX5_send 69 = .ok (.aload_n 0, 1) := by decide +kernel
theorem dX5_send_70 : decode cX5_send 70 = .ok (.getfield 12, 3) := by decide +kernel
theorem dX5_send_73 : decode cX5_send 73 = .ok (.iload_n 1, 1) := by decide +kernel
theorem dX5_send_74 : decode cX5_send 74 = .ok (.iload 4, 2) := by decide +kernel
theorem dX5_send_76 : decode cX5_send 76 = .ok (.invokevirtual 94, 3) := by decide +kernel
theorem dX5_send_79 : decode cX5_send 79 = .ok (.iconst (-1), 1) := by decide +kernel
theorem dX5_send_80 : decode cX5_send 80 = .ok (.if_icmp .eq 15, 3) := by decide +kernel
theorem dX5_send_83 : decode cX5_send 83 = .ok (.aload_n 0, 1) := by decide +kernel
theorem dX5_send_84 : decode cX5_send 84 = .ok (.iload_n 3, 1) := by decide +kernel
theorem dX5_send_85 : decode cX5_send 85 = .ok (.iload_n 2, 1) := by decide +kernel
theorem dX5_send_86 : decode cX5_send 86 = .ok (.invokestatic 82, 3) := by decide +kernel
theorem dX5_send_89 : decode cX5_send 89 = .ok (.iload 4, 2) := by decide +kernel
theorem dX5_send_91 : decode cX5_send 91 = .ok (.invokevirtual 162, 3) := by decide +kernel
theorem dX5_send_94 : decode cX5_send 94 = .ok (.pop, 1) := by decide +kernel
theorem dX5_send_95 : decode cX5_send 95 = .ok (.aload_n 0, 1) := by decide +kernel
theorem dX5_send_96 : decode cX5_send 96 = .ok (.iload_n 3, 1) := by decide +kernel
theorem dX5_send_97 : decode cX5_send 97 = .ok (.iload_n 1, 1) := by decide +kernel
theorem dX5_send_98 : decode cX5_send 98 = .ok (.iload_n 2, 1) := by decide +kernel
theorem dX5_send_99 : decode cX5_send 99 = .ok (.invokestatic 134, 3) := by decide +kernel
theorem dX5_send_102 : decode cX5_send 102 = .ok (.iload_n 1, 1) := by decide +kernel
theorem dX5_send_103 : decode cX5_send 103 = .ok (.invokevirtual 166, 3) := by decide +kernel
theorem dX5_send_106 : decode cX5_send 106 = .ok (.iload_n 3, 1) := by decide +kernel
theorem dX5_send_107 : decode cX5_send 107 = .ok (.ireturn, 1) := by decide +kernel
theorem dX5_follow_0 : decode cX5_follow 0 = .ok (.aload_n 0, 1) := by decide +kernel
theorem dX5_follow_1 : decode cX5_follow 1 = .ok (.getfield 33, 3) := by decide +kernel
theorem dX5_follow_4 : decode cX5_follow 4 = .ok (.invokevirtual 169, 3) := by decide +kernel
theorem dX5_follow_7 : decode cX5_follow 7 = .ok (.ifCond .eq 5, 3) := by decide +kernel
theorem dX5_follow_10 : decode cX5_follow 10 = .ok (.iconst 0, 1) := by decide +kernel
theorem dX5_follow_11 : decode cX5_follow 11 = .ok (.ireturn, 1) := by decide +kernel
theorem dX5_follow_12 : decode cX5_follow 12 = .ok (.aload_n 0, 1) := by decide +kernel
theorem dX5_follow_13 : decode cX5_follow 13 = .ok (.getfield 33, 3) := by decide +kernel
theorem dX5_follow_16 : decode cX5_follow 16 = .ok (.invokevirtual 172, 3) := by decide +kernel
theorem dX5_follow_19 : decode cX5_follow 19 = .ok (.istore_n 1, 1) := by decide +kernel
theorem dX5_follow_20 : decode cX5_follow 20 = .ok (.aload_n 0, 1) := by decide +kernel
theorem dX5_follow_21 : decode cX5_follow 21 = .ok (.getfield 33, 3) := by decide +kernel
theorem dX5_follow_24 : decode cX5_follow 24 = .ok (.invokevirtual 175, 3) := by decide +kernel
theorem dX5_follow_27 : decode cX5_follow 27 = .ok (.istore_n 2, 1) := by decide +kernel
theorem dX5_follow_28 : decode cX5_follow 28 = .ok (.aload_n 0, 1) := by decide +kernel
theorem dX5_follow_29 : decode cX5_follow 29 = .ok (.getfield 33, 3) := by decide +kernel
theorem dX5_follow_32 : decode cX5_follow 32 = .ok (.invokevirtual 178, 3) := by decide +kernel
theorem dX5_follow_35 : decode cX5_follow 35 = .ok (.istore_n 3, 1) := by decide +kernel
theorem dX5_follow_36 : decode cX5_follow 36 = .ok (.aload_n 0, 1) := by decide +kernel
theorem dX5_follow_37 : decode cX5_follow 37 = .ok (.getfield 33, 3) := by decide +kernel
theorem dX5_follow_40 : decode cX5_follow 40 = .ok (.invokevirtual 181, 3) := by decide +kernel
theorem dX5_follow_43 : decode cX5_follow 43 = .ok (.istore 4, 2) := by decide +kernel
theorem dX5_follow_45 : decode cX5_follow 45 = .ok (.aload_n 0, 1) := by decide +kernel
theorem dX5_follow_46 : decode cX5_follow 46 = .ok (.getfield 33, 3) := by decide +kernel
theorem dX5_follow_49 : decode cX5_follow 49 = .ok (.invokevirtual 184, 3) := by decide +kernel
theorem dX5_follow_52 : decode cX5_follow 52 = .ok (.aload_n 0, 1) := by decide +kernel
theorem dX5_follow_53 : decode cX5_follow 53 = .ok (.getfield 12, 3) := by decide +kernel
theorem dX5_follow_56 : decode cX5_follow 56 = .ok (.iload_n 3, 1) := by decide +kernel
theorem dX5_follow_57 : decode cX5_follow 57 = .ok (.iload 4, 2) := by decide +kernel
theorem dX5_follow_59 : decode cX5_follow 59 = .ok (.invokevirtual 59, 3) := by decide +kernel
theorem dX5_follow_62 : decode cX5_follow 62 = .ok (.ifCond .ne 15, 3) := by decide +kernel
theorem dX5_follow_65 : decode cX5_follow 65 = .ok (.aload_n 0, 1) := by decide +kernel
theorem dX5_follow_66 : decode cX5_follow 66 = .ok (.dup, 1) := by decide +kernel
theorem dX5_follow_67 : decode cX5_follow 67 = .ok (.getfield 187, 3) := by decide +kernel
theorem dX5_follow_70 : decode cX5_follow 70 = .ok (.iconst 1, 1) := by decide +kernel
theorem dX5_follow_71 : decode cX5_follow 71 = .ok (.iadd, 1) := by decide +kernel
theorem dX5_follow_72 : decode cX5_follow 72 = .ok (.putfield 187, 3) := by decide +kernel
theorem dX5_follow_75 : decode cX5_follow 75 = .ok (.iconst 1, 1) := by decide +kernel
theorem dX5_follow_76 : decode cX5_follow 76 = .ok (.ireturn, 1) := by decide +kernel
theorem dX5_follow_77 : decode cX5_follow 77 = .ok (.aload_n 0, 1) := by decide +kernel
theorem dX5_follow_78 : decode cX5_follow 78 = .ok (.getfield 12, 3) := by decide +kernel
theorem dX5_follow_81 : decode cX5_follow 81 = .ok (.iload 4, 2) := by decide +kernel
theorem dX5_follow_83 : decode cX5_follow 83 = .ok (.aload_n 0, 1) := by decide +kernel
theorem dX5_follow_84 : decode cX5_follow 84 = .ok (.getfield 19, 3) := by decide +kernel
theorem dX5_follow_87 : decode cX5_follow 87 = .ok (.iload_n 2, 1) := by decide +kernel
theorem dX5_follow_88 : decode cX5_follow 88 = .ok (.invokevirtual 103, 3) := by decide +kernel
theorem dX5_follow_91 : decode cX5_follow 91 = .ok (.invokevirtual 97, 3) := by decide +kernel
theorem dX5_follow_94 : decode cX5_follow 94 = .ok (.iload_n 3, 1) := by decide +kernel
theorem dX5_follow_95 : decode cX5_follow 95 = .ok (.if_icmp .eq 15, 3) := by decide +kernel
theorem dX5_follow_98 : decode cX5_follow 98 = .ok (.aload_n 0, 1) := by decide +kernel
theorem dX5_follow_99 : decode cX5_follow 99 = .ok (.dup, 1) := by decide +kernel
theorem dX5_follow_100 : decode cX5_follow 100 = .ok (.getfield 187, 3) := by decide +kernel
theorem dX5_follow_103 : decode cX5_follow 103 = .ok (.iconst 1, 1) := by decide +kernel
theorem dX5_follow_104 : decode cX5_follow 104 = .ok (.iadd, 1) := by decide +kernel
theorem dX5_follow_105 : decode cX5_follow 105 = .ok (.putfield 187, 3) := by decide +kernel
theorem dX5_follow_108 : decode cX5_follow 108 = .ok (.iconst 2, 1) := by decide +kernel
theorem dX5_follow_109 : decode cX5_follow 109 = .ok (.ireturn, 1) := by decide +kernel
theorem dX5_follow_110 : decode cX5_follow 110 = .ok (.aload_n 0, 1) := by decide +kernel
theorem dX5_follow_111 : decode cX5_follow 111 = .ok (.iload_n 1, 1) := by decide +kernel
theorem dX5_follow_112 : decode cX5_follow 112 = .ok (.iload_n 2, 1) := by decide +kernel
theorem dX5_follow_113 : decode cX5_follow 113 = .ok (.iload 4, 2) := by decide +kernel
theorem dX5_follow_115 : decode cX5_follow 115 = .ok (.invokevirtual 162, 3) := by decide +kernel
theorem dX5_follow_118 : decode cX5_follow 118 = .ok (.ifCond .eq 7, 3) := by decide +kernel
theorem dX5_follow_121 : decode cX5_follow 121 = .ok (.iconst 4, 1) := by decide +kernel
theorem dX5_follow_122 : decode cX5_follow 122 = .ok (.goto 4, 3) := by decide +kernel
theorem dX5_follow_125 : decode cX5_follow 125 = .ok (.iconst 3, 1) := by decide +kernel
theorem dX5_follow_126 : decode cX5_follow 126 = .ok (.ireturn, 1) := by decide +kernel
theorem dX5_followAll_0 : decode cX5_followAll 0 = .ok (.iconst 0, 1) := by decide +kernel
theorem dX5_followAll_1 : decode cX5_followAll 1 = .ok (.istore_n 1, 1) := by decide +kernel
theorem dX5_followAll_2 : decode cX5_followAll 2 = .ok (.iload_n 1, 1) := by decide +kernel
theorem dX5_followAll_3 : decode cX5_followAll 3 = .ok (.ldc 190, 2) := by decide +kernel
theorem dX5_followAll_5 : decode cX5_followAll 5 = .ok (.if_icmp .ge 24, 3) := by decide +kernel
theorem dX5_followAll_8 : decode cX5_followAll 8 = .ok (.aload_n 0, 1) := by decide +kernel
theorem dX5_followAll_9 : decode cX5_followAll 9 = .ok (.getfield 33, 3) := by decide +kernel
theorem dX5_followAll_12 : decode cX5_followAll 12 = .ok (.invokevirtual 169, 3) := by decide +kernel
theorem dX5_followAll_15 : decode cX5_followAll 15 = .ok (.ifCond .ne 14, 3) := by decide +kernel
theorem dX5_followAll_18 : decode cX5_followAll 18 = .ok (.aload_n 0, 1) := by decide +kernel
theorem dX5_followAll_19 : decode cX5_followAll 19 = .ok (.invokevirtual 191, 3) := by decide +kernel
theorem dX5_followAll_22 : decode cX5_followAll 22 = .ok (.pop, 1) := by decide +kernel
theorem dX5_followAll_23 : decode cX5_followAll 23 = .ok (.iinc 1 1, 3) := by decide +kernel
theorem dX5_followAll_26 : decode cX5_followAll 26 = .ok (.goto (-24), 3) := by decide +kernel
theorem dX5_followAll_29 : decode cX5_followAll 29 = .ok (.iload_n 1, 1) := by decide +kernel
theorem dX5_followAll_30 : decode cX5_followAll 30 = .ok (.ireturn, 1) := by decide +kernel
theorem dX5_queued_0 : decode cX5_queued 0 = .ok (.aload_n 0, 1) := by decide +kernel
theorem dX5_queued_1 : decode cX5_queued 1 = .ok (.getfield 33, 3) := by decide +kernel
theorem dX5_queued_4 : decode cX5_queued 4 = .ok (.invokevirtual 194, 3) := by decide +kernel
theorem dX5_queued_7 : decode cX5_queued 7 = .ok (.ireturn, 1) := by decide +kernel
theorem dX5_nextTo_0 : decode cX5_nextTo 0 = .ok (.aload_n 0, 1) := by decide +kernel
theorem dX5_nextTo_1 : decode cX5_nextTo 1 = .ok (.getfield 33, 3) := by decide +kernel
theorem dX5_nextTo_4 : decode cX5_nextTo 4 = .ok (.invokevirtual 181, 3) := by decide +kernel
theorem dX5_nextTo_7 : decode cX5_nextTo 7 = .ok (.ireturn, 1) := by decide +kernel
theorem dX5_received_0 : decode cX5_received 0 = .ok (.aload_n 0, 1) := by decide +kernel
theorem dX5_received_1 : decode cX5_received 1 = .ok (.iload_n 1, 1) := by decide +kernel
theorem dX5_received_2 : decode cX5_received 2 = .ok (.invokevirtual 197, 3) := by decide +kernel
theorem dX5_received_5 : decode cX5_received 5 = .ok (.aload_n 0, 1) := by decide +kernel
theorem dX5_received_6 : decode cX5_received 6 = .ok (.getfield 26, 3) := by decide +kernel
theorem dX5_received_9 : decode cX5_received 9 = .ok (.iload_n 1, 1) := by decide +kernel
theorem dX5_received_10 : decode cX5_received 10 = .ok (.invokevirtual 200, 3) := by decide +kernel
theorem dX5_received_13 : decode cX5_received 13 = .ok (.ireturn, 1) := by decide +kernel
theorem dX5_doubles_0 : decode cX5_doubles 0 = .ok (.aload_n 0, 1) := by decide +kernel
theorem dX5_doubles_1 : decode cX5_doubles 1 = .ok (.iload_n 1, 1) := by decide +kernel
theorem dX5_doubles_2 : decode cX5_doubles 2 = .ok (.invokevirtual 197, 3) := by decide +kernel
theorem dX5_doubles_5 : decode cX5_doubles 5 = .ok (.aload_n 0, 1) := by decide +kernel
theorem dX5_doubles_6 : decode cX5_doubles 6 = .ok (.getfield 26, 3) := by decide +kernel
theorem dX5_doubles_9 : decode cX5_doubles 9 = .ok (.iload_n 1, 1) := by decide +kernel
theorem dX5_doubles_10 : decode cX5_doubles 10 = .ok (.invokevirtual 203, 3) := by decide +kernel
theorem dX5_doubles_13 : decode cX5_doubles 13 = .ok (.ireturn, 1) := by decide +kernel
theorem dX5_wasted_0 : decode cX5_wasted 0 = .ok (.aload_n 0, 1) := by decide +kernel
theorem dX5_wasted_1 : decode cX5_wasted 1 = .ok (.getfield 187, 3) := by decide +kernel
theorem dX5_wasted_4 : decode cX5_wasted 4 = .ok (.ireturn, 1) := by decide +kernel
theorem dX5_pass_0 : decode cX5_pass 0 = .ok (.iload_n 1, 1) := by decide +kernel
theorem dX5_pass_1 : decode cX5_pass 1 = .ok (.iconst 1, 1) := by decide +kernel
theorem dX5_pass_2 : decode cX5_pass 2 = .ok (.if_icmp .lt 9, 3) := by decide +kernel
theorem dX5_pass_5 : decode cX5_pass 5 = .ok (.iload_n 1, 1) := by decide +kernel
theorem dX5_pass_6 : decode cX5_pass 6 = .ok (.bipush 100, 2) := by decide +kernel
theorem dX5_pass_8 : decode cX5_pass 8 = .ok (.if_icmp .le 13, 3) := by decide +kernel
theorem dX5_pass_11 : decode cX5_pass 11 = .ok (.new 52, 3) := by decide +kernel
theorem dX5_pass_14 : decode cX5_pass 14 = .ok (.dup, 1) := by decide +kernel
theorem dX5_pass_15 : decode cX5_pass 15 = .ok (.ldc 206, 2) := by decide +kernel
theorem dX5_pass_17 : decode cX5_pass 17 = .ok (.invokespecial 56, 3) := by decide +kernel
theorem dX5_pass_20 : decode cX5_pass 20 = .ok (.athrow, 1) := by decide +kernel
theorem dX5_pass_21 : decode cX5_pass 21 = .ok (.iconst 0, 1) := by decide +kernel
theorem dX5_pass_22 : decode cX5_pass 22 = .ok (.istore_n 2, 1) := by decide +kernel
theorem dX5_pass_23 : decode cX5_pass 23 = .ok (.iconst 0, 1) := by decide +kernel
theorem dX5_pass_24 : decode cX5_pass 24 = .ok (.istore_n 3, 1) := by decide +kernel
theorem dX5_pass_25 : decode cX5_pass 25 = .ok (.iload_n 3, 1) := by decide +kernel
theorem dX5_pass_26 : decode cX5_pass 26 = .ok (.iload_n 1, 1) := by decide +kernel
theorem dX5_pass_27 : decode cX5_pass 27 = .ok (.if_icmp .ge 50, 3) := by decide +kernel
theorem dX5_pass_30 : decode cX5_pass 30 = .ok (.aload_n 0, 1) := by decide +kernel
theorem dX5_pass_31 : decode cX5_pass 31 = .ok (.dup, 1) := by decide +kernel
theorem dX5_pass_32 : decode cX5_pass 32 = .ok (.getfield 128, 3) := by decide +kernel
theorem dX5_pass_35 : decode cX5_pass 35 = .ok (.iconst 1, 1) := by decide +kernel
theorem dX5_pass_36 : decode cX5_pass 36 = .ok (.iadd, 1) := by decide +kernel
theorem dX5_pass_37 : decode cX5_pass 37 = .ok (.putfield 128, 3) := by decide +kernel
theorem dX5_pass_40 : decode cX5_pass 40 = .ok (.iload_n 2, 1) := by decide +kernel
theorem dX5_pass_41 : decode cX5_pass 41 = .ok (.aload_n 0, 1) := by decide +kernel
theorem dX5_pass_42 : decode cX5_pass 42 = .ok (.getfield 19, 3) := by decide +kernel
theorem dX5_pass_45 : decode cX5_pass 45 = .ok (.aload_n 0, 1) := by decide +kernel
theorem dX5_pass_46 : decode cX5_pass 46 = .ok (.getfield 128, 3) := by decide +kernel
theorem dX5_pass_49 : decode cX5_pass 49 = .ok (.invokevirtual 208, 3) := by decide +kernel
theorem dX5_pass_52 : decode cX5_pass 52 = .ok (.iadd, 1) := by decide +kernel
theorem dX5_pass_53 : decode cX5_pass 53 = .ok (.istore_n 2, 1) := by decide +kernel
theorem dX5_pass_54 : decode cX5_pass 54 = .ok (.aload_n 0, 1) := by decide +kernel
theorem dX5_pass_55 : decode cX5_pass 55 = .ok (.getfield 128, 3) := by decide +kernel
theorem dX5_pass_58 : decode cX5_pass 58 = .ok (.bipush 10, 2) := by decide +kernel
theorem dX5_pass_60 : decode cX5_pass 60 = .ok (.irem, 1) := by decide +kernel
theorem dX5_pass_61 : decode cX5_pass 61 = .ok (.ifCond .ne 10, 3) := by decide +kernel
theorem dX5_pass_64 : decode cX5_pass 64 = .ok (.aload_n 0, 1) := by decide +kernel
theorem dX5_pass_65 : decode cX5_pass 65 = .ok (.getfield 40, 3) := by decide +kernel
theorem dX5_pass_68 : decode cX5_pass 68 = .ok (.invokevirtual 211, 3) := by decide +kernel
theorem dX5_pass_71 : decode cX5_pass 71 = .ok (.iinc 3 1, 3) := by decide +kernel
theorem dX5_pass_74 : decode cX5_pass 74 = .ok (.goto (-49), 3) := by decide +kernel
theorem dX5_pass_77 : decode cX5_pass 77 = .ok (.iload_n 2, 1) := by decide +kernel
theorem dX5_pass_78 : decode cX5_pass 78 = .ok (.ireturn, 1) := by decide +kernel
theorem dX5_clock_0 : decode cX5_clock 0 = .ok (.aload_n 0, 1) := by decide +kernel
theorem dX5_clock_1 : decode cX5_clock 1 = .ok (.getfield 128, 3) := by decide +kernel
theorem dX5_clock_4 : decode cX5_clock 4 = .ok (.ireturn, 1) := by decide +kernel
theorem dX5_floodMembers_0 : decode cX5_floodMembers 0 = .ok (.iload_n 1, 1) := by decide +kernel
theorem dX5_floodMembers_1 : decode cX5_floodMembers 1 = .ok (.invokestatic 48, 3) := by decide +kernel
theorem dX5_floodMembers_4 : decode cX5_floodMembers 4 = .ok (.iload_n 2, 1) := by decide +kernel
theorem dX5_floodMembers_5 : decode cX5_floodMembers 5 = .ok (.invokestatic 100, 3) := by decide +kernel
theorem dX5_floodMembers_8 : decode cX5_floodMembers 8 = .ok (.aload_n 0, 1) := by decide +kernel
theorem dX5_floodMembers_9 : decode cX5_floodMembers 9 = .ok (.iload_n 2, 1) := by decide +kernel
theorem dX5_floodMembers_10 : decode cX5_floodMembers 10 = .ok (.invokevirtual 118, 3) := by decide +kernel
theorem dX5_floodMembers_13 : decode cX5_floodMembers 13 = .ok (.aload_n 0, 1) := by decide +kernel
theorem dX5_floodMembers_14 : decode cX5_floodMembers 14 = .ok (.iload_n 1, 1) := by decide +kernel
theorem dX5_floodMembers_15 : decode cX5_floodMembers 15 = .ok (.invokevirtual 214, 3) := by decide +kernel
theorem dX5_floodMembers_18 : decode cX5_floodMembers 18 = .ok (.iand, 1) := by decide +kernel
theorem dX5_floodMembers_19 : decode cX5_floodMembers 19 = .ok (.ireturn, 1) := by decide +kernel
theorem dX5_floodCopies_0 : decode cX5_floodCopies 0 = .ok (.iload_n 1, 1) := by decide +kernel
theorem dX5_floodCopies_1 : decode cX5_floodCopies 1 = .ok (.invokestatic 48, 3) := by decide +kernel
theorem dX5_floodCopies_4 : decode cX5_floodCopies 4 = .ok (.aload_n 0, 1) := by decide +kernel
theorem dX5_floodCopies_5 : decode cX5_floodCopies 5 = .ok (.iload_n 1, 1) := by decide +kernel
theorem dX5_floodCopies_6 : decode cX5_floodCopies 6 = .ok (.invokevirtual 214, 3) := by decide +kernel
theorem dX5_floodCopies_9 : decode cX5_floodCopies 9 = .ok (.istore_n 2, 1) := by decide +kernel
theorem dX5_floodCopies_10 : decode cX5_floodCopies 10 = .ok (.iconst 0, 1) := by decide +kernel
theorem dX5_floodCopies_11 : decode cX5_floodCopies 11 = .ok (.istore_n 3, 1) := by decide +kernel
theorem dX5_floodCopies_12 : decode cX5_floodCopies 12 = .ok (.iconst 0, 1) := by decide +kernel
theorem dX5_floodCopies_13 : decode cX5_floodCopies 13 = .ok (.istore 4, 2) := by decide +kernel
theorem dX5_floodCopies_15 : decode cX5_floodCopies 15 = .ok (.iload 4, 2) := by decide +kernel
theorem dX5_floodCopies_17 : decode cX5_floodCopies 17 = .ok (.bipush 10, 2) := by decide +kernel
theorem dX5_floodCopies_19 : decode cX5_floodCopies 19 = .ok (.if_icmp .ge 42, 3) := by decide +kernel
theorem dX5_floodCopies_22 : decode cX5_floodCopies 22 = .ok (.iload_n 2, 1) := by decide +kernel
theorem dX5_floodCopies_23 : decode cX5_floodCopies 23 = .ok (.iload 4, 2) := by decide +kernel
theorem dX5_floodCopies_25 : decode cX5_floodCopies 25 = .ok (.invokestatic 74, 3) := by decide +kernel
theorem dX5_floodCopies_28 : decode cX5_floodCopies 28 = .ok (.ifCond .eq 27, 3) := by decide +kernel
theorem dX5_floodCopies_31 : decode cX5_floodCopies 31 = .ok (.iload_n 3, 1) := by decide +kernel
theorem dX5_floodCopies_32 : decode cX5_floodCopies 32 = .ok (.aload_n 0, 1) := by decide +kernel
theorem dX5_floodCopies_33 : decode cX5_floodCopies 33 = .ok (.getfield 12, 3) := by decide +kernel
theorem dX5_floodCopies_36 : decode cX5_floodCopies 36 = .ok (.iload 4, 2) := by decide +kernel
theorem dX5_floodCopies_38 : decode cX5_floodCopies 38 = .ok (.invokevirtual 217, 3) := by decide +kernel
theorem dX5_floodCopies_41 : decode cX5_floodCopies 41 = .ok (.iload 4, 2) := by decide +kernel
theorem dX5_floodCopies_43 : decode cX5_floodCopies 43 = .ok (.iload_n 1, 1) := by decide +kernel
theorem dX5_floodCopies_44 : decode cX5_floodCopies 44 = .ok (.if_icmp .ne 7, 3) := by decide +kernel
theorem dX5_floodCopies_47 : decode cX5_floodCopies 47 = .ok (.iconst 0, 1) := by decide +kernel
theorem dX5_floodCopies_48 : decode cX5_floodCopies 48 = .ok (.goto 4, 3) := by decide +kernel
theorem dX5_floodCopies_51 : decode cX5_floodCopies 51 = .ok (.iconst 1, 1) := by decide +kernel
theorem dX5_floodCopies_52 : decode cX5_floodCopies 52 = .ok (.isub, 1) := by decide +kernel
theorem dX5_floodCopies_53 : decode cX5_floodCopies 53 = .ok (.iadd, 1) := by decide +kernel
theorem dX5_floodCopies_54 : decode cX5_floodCopies 54 = .ok (.istore_n 3, 1) := by decide +kernel
theorem dX5_floodCopies_55 : decode cX5_floodCopies 55 = .ok (.iinc 4 1, 3) := by decide +kernel
theorem dX5_floodCopies_58 : decode cX5_floodCopies 58 = .ok (.goto (-43), 3) := by decide +kernel
theorem dX5_floodCopies_61 : decode cX5_floodCopies 61 = .ok (.iload_n 3, 1) := by decide +kernel
theorem dX5_floodCopies_62 : decode cX5_floodCopies 62 = .ok (.ireturn, 1) := by decide +kernel
theorem dX5_floodedFrom_0 : decode cX5_floodedFrom 0 = .ok (.iconst 0, 1) := by decide +kernel
theorem dX5_floodedFrom_1 : decode cX5_floodedFrom 1 = .ok (.istore_n 2, 1) := by decide +kernel
theorem dX5_floodedFrom_2 : decode cX5_floodedFrom 2 = .ok (.iconst 0, 1) := by decide +kernel
theorem dX5_floodedFrom_3 : decode cX5_floodedFrom 3 = .ok (.istore_n 3, 1) := by decide +kernel
theorem dX5_floodedFrom_4 : decode cX5_floodedFrom 4 = .ok (.iload_n 3, 1) := by decide +kernel
theorem dX5_floodedFrom_5 : decode cX5_floodedFrom 5 = .ok (.bipush 10, 2) := by decide +kernel
theorem dX5_floodedFrom_7 : decode cX5_floodedFrom 7 = .ok (.if_icmp .ge 29, 3) := by decide +kernel
theorem dX5_floodedFrom_10 : decode cX5_floodedFrom 10 = .ok (.aload_n 0, 1) := by decide +kernel
theorem dX5_floodedFrom_11 : decode cX5_floodedFrom 11 = .ok (.getfield 12, 3) := by decide +kernel
theorem dX5_floodedFrom_14 : decode cX5_floodedFrom 14 = .ok (.iload_n 1, 1) := by decide +kernel
theorem dX5_floodedFrom_15 : decode cX5_floodedFrom 15 = .ok (.iload_n 3, 1) := by decide +kernel
theorem dX5_floodedFrom_16 : decode cX5_floodedFrom 16 = .ok (.invokevirtual 94, 3) := by decide +kernel
theorem dX5_floodedFrom_19 : decode cX5_floodedFrom 19 = .ok (.iconst (-1), 1) := by decide +kernel
theorem dX5_floodedFrom_20 : decode cX5_floodedFrom 20 = .ok (.if_icmp .eq 10, 3) := by decide +kernel
theorem dX5_floodedFrom_23 : decode cX5_floodedFrom 23 = .ok (.iload_n 2, 1) := by decide +kernel
theorem dX5_floodedFrom_24 : decode cX5_floodedFrom 24 = .ok (.iload_n 3, 1) := by decide +kernel
theorem dX5_floodedFrom_25 : decode cX5_floodedFrom 25 = .ok (.invokestatic 78, 3) := by decide +kernel
theorem dX5_floodedFrom_28 : decode cX5_floodedFrom 28 = .ok (.ior, 1) := by decide +kernel
theorem dX5_floodedFrom_29 : decode cX5_floodedFrom 29 = .ok (.istore_n 2, 1) := by decide +kernel
theorem dX5_floodedFrom_30 : decode cX5_floodedFrom 30 = .ok (.iinc 3 1, 3) := by decide +kernel
theorem dX5_floodedFrom_33 : decode cX5_floodedFrom 33 = .ok (.goto (-29), 3) := by decide +kernel
theorem dX5_floodedFrom_36 : decode cX5_floodedFrom 36 = .ok (.iload_n 2, 1) := by decide +kernel
theorem dX5_floodedFrom_37 : decode cX5_floodedFrom 37 = .ok (.ireturn, 1) := by decide +kernel
theorem dX5_bestCandidate_0 : decode cX5_bestCandidate 0 = .ok (.iconst (-1), 1) := by decide +kernel
theorem dX5_bestCandidate_1 : decode cX5_bestCandidate 1 = .ok (.istore_n 2, 1) := by decide +kernel
theorem dX5_bestCandidate_2 : decode cX5_bestCandidate 2 = .ok (.iconst (-1), 1) := by decide +kernel
theorem dX5_bestCandidate_3 : decode cX5_bestCandidate 3 = .ok (.istore_n 3, 1) := by decide +kernel
theorem dX5_bestCandidate_4 : decode cX5_bestCandidate 4 = .ok (.iconst 0, 1) := by decide +kernel
theorem dX5_bestCandidate_5 : decode cX5_bestCandidate 5 = .ok (.istore 4, 2) := by decide +kernel
theorem dX5_bestCandidate_7 : decode cX5_bestCandidate 7 = .ok (.iload 4, 2) := by decide +kernel
theorem dX5_bestCandidate_9 : decode cX5_bestCandidate 9 = .ok (.bipush 10, 2) := by decide +kernel
theorem dX5_bestCandidate_11 : decode cX5_bestCandidate 11 = .ok (.if_icmp .ge 55, 3) := by decide +kernel
theorem dX5_bestCandidate_14 : decode cX5_bestCandidate 14 = .ok (.bipush 31, 2) := by decide +kernel
theorem dX5_bestCandidate_16 : decode cX5_bestCandidate 16 = .ok (.iload_n 1, 1) := by decide +kernel
theorem dX5_bestCandidate_17 : decode cX5_bestCandidate 17 = .ok (.imul, 1) := by decide +kernel
theorem dX5_bestCandidate_18 : decode cX5_bestCandidate 18 = .ok (.bipush 17, 2) := by decide +kernel
theorem dX5_bestCandidate_20 : decode cX5_bestCandidate 20 = .ok (.iadd, 1) := by decide +kernel
theorem dX5_bestCandidate_21 : decode cX5_bestCandidate 21 = .ok (.bipush 53, 2) := by decide +kernel
theorem dX5_bestCandidate_23 : decode cX5_bestCandidate 23 = .ok (.iload 4, 2) := by decide +kernel
theorem dX5_bestCandidate_25 : decode cX5_bestCandidate 25 = .ok (.imul, 1) := by decide +kernel
theorem dX5_bestCandidate_26 : decode cX5_bestCandidate 26 = .ok (.bipush 29, 2) := by decide +kernel
theorem dX5_bestCandidate_28 : decode cX5_bestCandidate 28 = .ok (.iadd, 1) := by decide +kernel
theorem dX5_bestCandidate_29 : decode cX5_bestCandidate 29 = .ok (.imul, 1) := by decide +kernel
theorem dX5_bestCandidate_30 : decode cX5_bestCandidate 30 = .ok (.sipush 997, 3) := by decide +kernel
theorem dX5_bestCandidate_33 : decode cX5_bestCandidate 33 = .ok (.irem, 1) := by decide +kernel
theorem dX5_bestCandidate_34 : decode cX5_bestCandidate 34 = .ok (.istore 5, 2) := by decide +kernel
theorem dX5_bestCandidate_36 : decode cX5_bestCandidate 36 = .ok (.aload_n 0, 1) := by decide +kernel
theorem dX5_bestCandidate_37 : decode cX5_bestCandidate 37 = .ok (.getfield 71, 3) := by decide +kernel
theorem dX5_bestCandidate_40 : decode cX5_bestCandidate 40 = .ok (.iload 4, 2) := by decide +kernel
theorem dX5_bestCandidate_42 : decode cX5_bestCandidate 42 = .ok (.invokestatic 74, 3) := by decide +kernel
theorem dX5_bestCandidate_45 : decode cX5_bestCandidate 45 = .ok (.ifCond .eq 15, 3) := by decide +kernel
theorem dX5_bestCandidate_48 : decode cX5_bestCandidate 48 = .ok (.iload 5, 2) := by decide +kernel
theorem dX5_bestCandidate_50 : decode cX5_bestCandidate 50 = .ok (.iload_n 3, 1) := by decide +kernel
theorem dX5_bestCandidate_51 : decode cX5_bestCandidate 51 = .ok (.if_icmp .le 9, 3) := by decide +kernel
theorem dX5_bestCandidate_54 : decode cX5_bestCandidate 54 = .ok (.iload 4, 2) := by decide +kernel
theorem dX5_bestCandidate_56 : decode cX5_bestCandidate 56 = .ok (.istore_n 2, 1) := by decide +kernel
theorem dX5_bestCandidate_57 : decode cX5_bestCandidate 57 = .ok (.iload 5, 2) := by decide +kernel
theorem dX5_bestCandidate_59 : decode cX5_bestCandidate 59 = .ok (.istore_n 3, 1) := by decide +kernel
theorem dX5_bestCandidate_60 : decode cX5_bestCandidate 60 = .ok (.iinc 4 1, 3) := by decide +kernel
theorem dX5_bestCandidate_63 : decode cX5_bestCandidate 63 = .ok (.goto (-56), 3) := by decide +kernel
theorem dX5_bestCandidate_66 : decode cX5_bestCandidate 66 = .ok (.iload_n 2, 1) := by decide +kernel
theorem dX5_bestCandidate_67 : decode cX5_bestCandidate 67 = .ok (.ireturn, 1) := by decide +kernel
theorem dX5_membersOf_0 : decode cX5_membersOf 0 = .ok (.aload_n 0, 1) := by decide +kernel
theorem dX5_membersOf_1 : decode cX5_membersOf 1 = .ok (.getfield 19, 3) := by decide +kernel
theorem dX5_membersOf_4 : decode cX5_membersOf 4 = .ok (.iload_n 1, 1) := by decide +kernel
theorem dX5_membersOf_5 : decode cX5_membersOf 5 = .ok (.invokestatic 82, 3) := by decide +kernel
theorem dX5_membersOf_8 : decode cX5_membersOf 8 = .ok (.invokevirtual 140, 3) := by decide +kernel
theorem dX5_membersOf_11 : decode cX5_membersOf 11 = .ok (.ireturn, 1) := by decide +kernel
theorem dX5_isMember_0 : decode cX5_isMember 0 = .ok (.aload_n 0, 1) := by decide +kernel
theorem dX5_isMember_1 : decode cX5_isMember 1 = .ok (.iload_n 2, 1) := by decide +kernel
theorem dX5_isMember_2 : decode cX5_isMember 2 = .ok (.invokevirtual 118, 3) := by decide +kernel
theorem dX5_isMember_5 : decode cX5_isMember 5 = .ok (.iload_n 1, 1) := by decide +kernel
theorem dX5_isMember_6 : decode cX5_isMember 6 = .ok (.invokestatic 74, 3) := by decide +kernel
theorem dX5_isMember_9 : decode cX5_isMember 9 = .ok (.ireturn, 1) := by decide +kernel
theorem dX5_getPacket_0 : decode cX5_getPacket 0 = .ok (.aload_n 0, 1) := by decide +kernel
theorem dX5_getPacket_1 : decode cX5_getPacket 1 = .ok (.getfield 26, 3) := by decide +kernel
theorem dX5_getPacket_4 : decode cX5_getPacket 4 = .ok (.iload_n 1, 1) := by decide +kernel
theorem dX5_getPacket_5 : decode cX5_getPacket 5 = .ok (.invokevirtual 220, 3) := by decide +kernel
theorem dX5_getPacket_8 : decode cX5_getPacket 8 = .ok (.istore 4, 2) := by decide +kernel
theorem dX5_getPacket_10 : decode cX5_getPacket 10 = .ok (.aload_n 0, 1) := by decide +kernel
theorem dX5_getPacket_11 : decode cX5_getPacket 11 = .ok (.iload_n 3, 1) := by decide +kernel
theorem dX5_getPacket_12 : decode cX5_getPacket 12 = .ok (.iload 4, 2) := by decide +kernel
theorem dX5_getPacket_14 : decode cX5_getPacket 14 = .ok (.invokevirtual 106, 3) := by decide +kernel
theorem dX5_getPacket_17 : decode cX5_getPacket 17 = .ok (.istore 5, 2) := by decide +kernel
theorem dX5_getPacket_19 : decode cX5_getPacket 19 = .ok (.aload_n 0, 1) := by decide +kernel
theorem dX5_getPacket_20 : decode cX5_getPacket 20 = .ok (.getfield 26, 3) := by decide +kernel
theorem dX5_getPacket_23 : decode cX5_getPacket 23 = .ok (.iload_n 1, 1) := by decide +kernel
theorem dX5_getPacket_24 : decode cX5_getPacket 24 = .ok (.invokevirtual 200, 3) := by decide +kernel
theorem dX5_getPacket_27 : decode cX5_getPacket 27 = .ok (.iload_n 3, 1) := by decide +kernel
theorem dX5_getPacket_28 : decode cX5_getPacket 28 = .ok (.invokestatic 74, 3) := by decide +kernel
theorem dX5_getPacket_31 : decode cX5_getPacket 31 = .ok (.istore 6, 2) := by decide +kernel
theorem dX5_getPacket_33 : decode cX5_getPacket 33 = .ok (.iload 5, 2) := by decide +kernel
theorem dX5_getPacket_35 : decode cX5_getPacket 35 = .ok (.ifCond .eq 16, 3) := by decide +kernel
theorem dX5_getPacket_38 : decode cX5_getPacket 38 = .ok (.iload 6, 2) := by decide +kernel
theorem dX5_getPacket_40 : decode cX5_getPacket 40 = .ok (.ifCond .eq 11, 3) := by decide +kernel
theorem dX5_getPacket_43 : decode cX5_getPacket 43 = .ok (.aload_n 0, 1) := by decide +kernel
theorem dX5_getPacket_44 : decode cX5_getPacket 44 = .ok (.getfield 26, 3) := by decide +kernel
theorem dX5_getPacket_47 : decode cX5_getPacket 47 = .ok (.iload_n 1, 1) := by decide +kernel
theorem dX5_getPacket_48 : decode cX5_getPacket 48 = .ok (.invokevirtual 223, 3) := by decide +kernel
theorem dX5_getPacket_51 : decode cX5_getPacket 51 = .ok (.iload 5, 2) := by decide +kernel
theorem dX5_getPacket_53 : decode cX5_getPacket 53 = .ok (.ifCond .eq 12, 3) := by decide +kernel
theorem dX5_getPacket_56 : decode cX5_getPacket 56 = .ok (.iload 6, 2) := by decide +kernel
theorem dX5_getPacket_58 : decode cX5_getPacket 58 = .ok (.ifCond .ne 7, 3) := by decide +kernel
theorem dX5_getPacket_61 : decode cX5_getPacket 61 = .ok (.iconst 1, 1) := by decide +kernel
theorem dX5_getPacket_62 : decode cX5_getPacket 62 = .ok (.goto 4, 3) := by decide +kernel
theorem dX5_getPacket_65 : decode cX5_getPacket 65 = .ok (.iconst 0, 1) := by decide +kernel
theorem dX5_getPacket_66 : decode cX5_getPacket 66 = .ok (.istore 7, 2) := by decide +kernel
theorem dX5_getPacket_68 : decode cX5_getPacket 68 = .ok (.iload 7, 2) := by decide +kernel
theorem dX5_getPacket_70 : decode cX5_getPacket 70 = .ok (.ifCond .eq 12, 3) := by decide +kernel
theorem dX5_getPacket_73 : decode cX5_getPacket 73 = .ok (.aload_n 0, 1) := by decide +kernel
theorem dX5_getPacket_74 : decode cX5_getPacket 74 = .ok (.getfield 26, 3) := by decide +kernel
theorem dX5_getPacket_77 : decode cX5_getPacket 77 = .ok (.iload_n 1, 1) := by decide +kernel
theorem dX5_getPacket_78 : decode cX5_getPacket 78 = .ok (.iload_n 3, 1) := by decide +kernel
theorem dX5_getPacket_79 : decode cX5_getPacket 79 = .ok (.invokevirtual 159, 3) := by decide +kernel
theorem dX5_getPacket_82 : decode cX5_getPacket 82 = .ok (.aload_n 0, 1) := by decide +kernel
theorem dX5_getPacket_83 : decode cX5_getPacket 83 = .ok (.getfield 26, 3) := by decide +kernel
theorem dX5_getPacket_86 : decode cX5_getPacket 86 = .ok (.iload_n 1, 1) := by decide +kernel
theorem dX5_getPacket_87 : decode cX5_getPacket 87 = .ok (.invokevirtual 226, 3) := by decide +kernel
theorem dX5_getPacket_90 : decode cX5_getPacket 90 = .ok (.istore 8, 2) := by decide +kernel
theorem dX5_getPacket_92 : decode cX5_getPacket 92 = .ok (.iload 7, 2) := by decide +kernel
theorem dX5_getPacket_94 : decode cX5_getPacket 94 = .ok (.ifCond .eq 41, 3) := by decide +kernel
theorem dX5_getPacket_97 : decode cX5_getPacket 97 = .ok (.iload_n 2, 1) := by decide +kernel
theorem dX5_getPacket_98 : decode cX5_getPacket 98 = .ok (.invokestatic 229, 3) := by decide +kernel
theorem dX5_getPacket_101 : decode cX5_getPacket 101 = .ok (.ifCond .eq 34, 3) := by decide +kernel
theorem dX5_getPacket_104 : decode cX5_getPacket 104 = .ok (.aload_n 0, 1) := by decide +kernel
theorem dX5_getPacket_105 : decode cX5_getPacket 105 = .ok (.iload_n 3, 1) := by decide +kernel
theorem dX5_getPacket_106 : decode cX5_getPacket 106 = .ok (.iload 8, 2) := by decide +kernel
theorem dX5_getPacket_108 : decode cX5_getPacket 108 = .ok (.iload 4, 2) := by decide +kernel
theorem dX5_getPacket_110 : decode cX5_getPacket 110 = .ok (.invokevirtual 233, 3) := by decide +kernel
theorem dX5_getPacket_113 : decode cX5_getPacket 113 = .ok (.ifCond .eq 22, 3) := by decide +kernel
theorem dX5_getPacket_116 : decode cX5_getPacket 116 = .ok (.aload_n 0, 1) := by decide +kernel
theorem dX5_getPacket_117 : decode cX5_getPacket 117 = .ok (.getfield 19, 3) := by decide +kernel
theorem dX5_getPacket_120 : decode cX5_getPacket 120 = .ok (.iload 8, 2) := by decide +kernel
theorem dX5_getPacket_122 : decode cX5_getPacket 122 = .ok (.iload 4, 2) := by decide +kernel
theorem dX5_getPacket_124 : decode cX5_getPacket 124 = .ok (.invokestatic 134, 3) := by decide +kernel
theorem dX5_getPacket_127 : decode cX5_getPacket 127 = .ok (.iload_n 3, 1) := by decide +kernel
theorem dX5_getPacket_128 : decode cX5_getPacket 128 = .ok (.aload_n 0, 1) := by decide +kernel
theorem dX5_getPacket_129 : decode cX5_getPacket 129 = .ok (.getfield 12, 3) := by decide +kernel
theorem dX5_getPacket_132 : decode cX5_getPacket 132 = .ok (.invokevirtual 114, 3) := by decide +kernel
theorem dX5_getPacket_135 : decode cX5_getPacket 135 = .ok (.aload_n 0, 1) := by decide +kernel
theorem dX5_getPacket_136 : decode cX5_getPacket 136 = .ok (.iload_n 1, 1) := by decide +kernel
theorem dX5_getPacket_137 : decode cX5_getPacket 137 = .ok (.iload_n 2, 1) := by decide +kernel
theorem dX5_getPacket_138 : decode cX5_getPacket 138 = .ok (.iload_n 3, 1) := by decide +kernel
theorem dX5_getPacket_139 : decode cX5_getPacket 139 = .ok (.invokevirtual 166, 3) := by decide +kernel
theorem dX5_getPacket_142 : decode cX5_getPacket 142 = .ok (.iload 7, 2) := by decide +kernel
theorem dX5_getPacket_144 : decode cX5_getPacket 144 = .ok (.ireturn, 1) := by decide +kernel
theorem dX5_countSaysSwitch_0 : decode cX5_countSaysSwitch 0 = .ok (.aload_n 0, 1) := by decide +kernel
theorem dX5_countSaysSwitch_1 : decode cX5_countSaysSwitch 1 = .ok (.getfield 40, 3) := by decide +kernel
theorem dX5_countSaysSwitch_4 : decode cX5_countSaysSwitch 4 = .ok (.iload_n 1, 1) := by decide +kernel
theorem dX5_countSaysSwitch_5 : decode cX5_countSaysSwitch 5 = .ok (.iload_n 2, 1) := by decide +kernel
theorem dX5_countSaysSwitch_6 : decode cX5_countSaysSwitch 6 = .ok (.iload_n 3, 1) := by decide +kernel
theorem dX5_countSaysSwitch_7 : decode cX5_countSaysSwitch 7 = .ok (.invokevirtual 236, 3) := by decide +kernel
theorem dX5_countSaysSwitch_10 : decode cX5_countSaysSwitch 10 = .ok (.istore 4, 2) := by decide +kernel
theorem dX5_countSaysSwitch_12 : decode cX5_countSaysSwitch 12 = .ok (.aload_n 0, 1) := by decide +kernel
theorem dX5_countSaysSwitch_13 : decode cX5_countSaysSwitch 13 = .ok (.getfield 19, 3) := by decide +kernel
theorem dX5_countSaysSwitch_16 : decode cX5_countSaysSwitch 16 = .ok (.iload_n 2, 1) := by decide +kernel
theorem dX5_countSaysSwitch_17 : decode cX5_countSaysSwitch 17 = .ok (.iload_n 3, 1) := by decide +kernel
theorem dX5_countSaysSwitch_18 : decode cX5_countSaysSwitch 18 = .ok (.invokestatic 134, 3) := by decide +kernel
theorem dX5_countSaysSwitch_21 : decode cX5_countSaysSwitch 21 = .ok (.invokevirtual 140, 3) := by decide +kernel
theorem dX5_countSaysSwitch_24 : decode cX5_countSaysSwitch 24 = .ok (.istore 5, 2) := by decide +kernel
theorem dX5_countSaysSwitch_26 : decode cX5_countSaysSwitch 26 = .ok (.iload 4, 2) := by decide +kernel
theorem dX5_countSaysSwitch_28 : decode cX5_countSaysSwitch 28 = .ok (.aload_n 0, 1) := by decide +kernel
theorem dX5_countSaysSwitch_29 : decode cX5_countSaysSwitch 29 = .ok (.getfield 44, 3) := by decide +kernel
theorem dX5_countSaysSwitch_32 : decode cX5_countSaysSwitch 32 = .ok (.if_icmp .lt 21, 3) := by decide +kernel
theorem dX5_countSaysSwitch_35 : decode cX5_countSaysSwitch 35 = .ok (.iload_n 1, 1) := by decide +kernel
theorem dX5_countSaysSwitch_36 : decode cX5_countSaysSwitch 36 = .ok (.iload_n 2, 1) := by decide +kernel
theorem dX5_countSaysSwitch_37 : decode cX5_countSaysSwitch 37 = .ok (.if_icmp .eq 16, 3) := by decide +kernel
theorem dX5_countSaysSwitch_40 : decode cX5_countSaysSwitch 40 = .ok (.iload 5, 2) := by decide +kernel
theorem dX5_countSaysSwitch_42 : decode cX5_countSaysSwitch 42 = .ok (.iload_n 1, 1) := by decide +kernel
theorem dX5_countSaysSwitch_43 : decode cX5_countSaysSwitch 43 = .ok (.invokestatic 74, 3) := by decide +kernel
theorem dX5_countSaysSwitch_46 : decode cX5_countSaysSwitch 46 = .ok (.ifCond .ne 7, 3) := by decide +kernel
theorem dX5_countSaysSwitch_49 : decode cX5_countSaysSwitch 49 = .ok (.iconst 1, 1) := by decide +kernel
theorem dX5_countSaysSwitch_50 : decode cX5_countSaysSwitch 50 = .ok (.goto 4, 3) := by decide +kernel
theorem dX5_countSaysSwitch_53 : decode cX5_countSaysSwitch 53 = .ok (.iconst 0, 1) := by decide +kernel
theorem dX5_countSaysSwitch_54 : decode cX5_countSaysSwitch 54 = .ok (.ireturn, 1) := by decide +kernel
theorem dX5_goOn_0 : decode cX5_goOn 0 = .ok (.aload_n 0, 1) := by decide +kernel
theorem dX5_goOn_1 : decode cX5_goOn 1 = .ok (.getfield 19, 3) := by decide +kernel
theorem dX5_goOn_4 : decode cX5_goOn 4 = .ok (.iload_n 2, 1) := by decide +kernel
theorem dX5_goOn_5 : decode cX5_goOn 5 = .ok (.iload_n 3, 1) := by decide +kernel
theorem dX5_goOn_6 : decode cX5_goOn 6 = .ok (.invokevirtual 143, 3) := by decide +kernel
theorem dX5_goOn_9 : decode cX5_goOn 9 = .ok (.istore 4, 2) := by decide +kernel
theorem dX5_goOn_11 : decode cX5_goOn 11 = .ok (.iconst 0, 1) := by decide +kernel
theorem dX5_goOn_12 : decode cX5_goOn 12 = .ok (.istore 5, 2) := by decide +kernel
theorem dX5_goOn_14 : decode cX5_goOn 14 = .ok (.iload 5, 2) := by decide +kernel
theorem dX5_goOn_16 : decode cX5_goOn 16 = .ok (.bipush 10, 2) := by decide +kernel
theorem dX5_goOn_18 : decode cX5_goOn 18 = .ok (.if_icmp .ge 44, 3) := by decide +kernel
theorem dX5_goOn_21 : decode cX5_goOn 21 = .ok (.iload 4, 2) := by decide +kernel
theorem dX5_goOn_23 : decode cX5_goOn 23 = .ok (.iload 5, 2) := by decide +kernel
theorem dX5_goOn_25 : decode cX5_goOn 25 = .ok (.invokestatic 74, 3) := by decide +kernel
theorem dX5_goOn_28 : decode cX5_goOn 28 = .ok (.ifCond .eq 28, 3) := by decide +kernel
theorem dX5_goOn_31 : decode cX5_goOn 31 = .ok (.aload_n 0, 1) := by decide +kernel
theorem dX5_goOn_32 : decode cX5_goOn 32 = .ok (.getfield 33, 3) := by decide +kernel
theorem dX5_goOn_35 : decode cX5_goOn 35 = .ok (.iload_n 1, 1) := by decide +kernel
theorem dX5_goOn_36 : decode cX5_goOn 36 = .ok (.iload_n 2, 1) := by decide +kernel
theorem dX5_goOn_37 : decode cX5_goOn 37 = .ok (.iload_n 3, 1) := by decide +kernel
theorem dX5_goOn_38 : decode cX5_goOn 38 = .ok (.iload 5, 2) := by decide +kernel
theorem dX5_goOn_40 : decode cX5_goOn 40 = .ok (.invokevirtual 240, 3) := by decide +kernel
theorem dX5_goOn_43 : decode cX5_goOn 43 = .ok (.ifCond .ne 13, 3) := by decide +kernel
theorem dX5_goOn_46 : decode cX5_goOn 46 = .ok (.aload_n 0, 1) := by decide +kernel
theorem dX5_goOn_47 : decode cX5_goOn 47 = .ok (.dup, 1) := by decide +kernel
theorem dX5_goOn_48 : decode cX5_goOn 48 = .ok (.getfield 187, 3) := by decide +kernel
theorem dX5_goOn_51 : decode cX5_goOn 51 = .ok (.iconst 1, 1) := by decide +kernel
theorem dX5_goOn_52 : decode cX5_goOn 52 = .ok (.iadd, 1) := by decide +kernel
theorem dX5_goOn_53 : decode cX5_goOn 53 = .ok (.putfield 187, 3) := by decide +kernel
theorem dX5_goOn_56 : decode cX5_goOn 56 = .ok (.iinc 5 1, 3) := by decide +kernel
theorem dX5_goOn_59 : decode cX5_goOn 59 = .ok (.goto (-45), 3) := by decide +kernel
theorem dX5_goOn_62 : decode cX5_goOn 62 = .ok (.return_, 1) := by decide +kernel
theorem dX5_checkPacket_0 : decode cX5_checkPacket 0 = .ok (.aload_n 0, 1) := by decide +kernel
theorem dX5_checkPacket_1 : decode cX5_checkPacket 1 = .ok (.getfield 26, 3) := by decide +kernel
theorem dX5_checkPacket_4 : decode cX5_checkPacket 4 = .ok (.iload_n 1, 1) := by decide +kernel
theorem dX5_checkPacket_5 : decode cX5_checkPacket 5 = .ok (.invokevirtual 244, 3) := by decide +kernel
theorem dX5_checkPacket_8 : decode cX5_checkPacket 8 = .ok (.ifCond .ne 13, 3) := by decide +kernel
theorem dX5_checkPacket_11 : decode cX5_checkPacket 11 = .ok (.new 247, 3) := by decide +kernel
theorem dX5_checkPacket_14 : decode cX5_checkPacket 14 = .ok (.dup, 1) := by decide +kernel
theorem dX5_checkPacket_15 : decode cX5_checkPacket 15 = .ok (.ldc 249, 2) := by decide +kernel
theorem dX5_checkPacket_17 : decode cX5_checkPacket 17 = .ok (.invokespecial 251, 3) := by decide +kernel
theorem dX5_checkPacket_20 : decode cX5_checkPacket 20 = .ok (.athrow, 1) := by decide +kernel
theorem dX5_checkPacket_21 : decode cX5_checkPacket 21 = .ok (.return_, 1) := by decide +kernel
theorem dX5_checkRouter_0 : decode cX5_checkRouter 0 = .ok (.iload_n 0, 1) := by decide +kernel
theorem dX5_checkRouter_1 : decode cX5_checkRouter 1 = .ok (.invokestatic 252, 3) := by decide +kernel
theorem dX5_checkRouter_4 : decode cX5_checkRouter 4 = .ok (.ifCond .ne 13, 3) := by decide +kernel
theorem dX5_checkRouter_7 : decode cX5_checkRouter 7 = .ok (.new 247, 3) := by decide +kernel
theorem dX5_checkRouter_10 : decode cX5_checkRouter 10 = .ok (.dup, 1) := by decide +kernel
theorem dX5_checkRouter_11 : decode cX5_checkRouter 11 = .ok (.ldc 255, 2) := by decide +kernel
theorem dX5_checkRouter_13 : decode cX5_checkRouter 13 = .ok (.invokespecial 251, 3) := by decide +kernel
theorem dX5_checkRouter_16 : decode cX5_checkRouter 16 = .ok (.athrow, 1) := by decide +kernel
theorem dX5_checkRouter_17 : decode cX5_checkRouter 17 = .ok (.return_, 1) := by decide +kernel
theorem dX5_checkGroup_0 : decode cX5_checkGroup 0 = .ok (.iload_n 0, 1) := by decide +kernel
theorem dX5_checkGroup_1 : decode cX5_checkGroup 1 = .ok (.invokestatic 257, 3) := by decide +kernel
theorem dX5_checkGroup_4 : decode cX5_checkGroup 4 = .ok (.ifCond .ne 14, 3) := by decide +kernel
theorem dX5_checkGroup_7 : decode cX5_checkGroup 7 = .ok (.new 247, 3) := by decide +kernel
theorem dX5_checkGroup_10 : decode cX5_checkGroup 10 = .ok (.dup, 1) := by decide +kernel
theorem dX5_checkGroup_11 : decode cX5_checkGroup 11 = .ok (.ldc_w 260, 3) := by decide +kernel
theorem dX5_checkGroup_14 : decode cX5_checkGroup 14 = .ok (.invokespecial 251, 3) := by decide +kernel
theorem dX5_checkGroup_17 : decode cX5_checkGroup 17 = .ok (.athrow, 1) := by decide +kernel
theorem dX5_checkGroup_18 : decode cX5_checkGroup 18 = .ok (.return_, 1) := by decide +kernel
theorem dX5_isRouter_0 : decode cX5_isRouter 0 = .ok (.iload_n 0, 1) := by decide +kernel
theorem dX5_isRouter_1 : decode cX5_isRouter 1 = .ok (.ifCond .lt 13, 3) := by decide +kernel
theorem dX5_isRouter_4 : decode cX5_isRouter 4 = .ok (.iload_n 0, 1) := by decide +kernel
theorem dX5_isRouter_5 : decode cX5_isRouter 5 = .ok (.bipush 10, 2) := by decide +kernel
theorem dX5_isRouter_7 : decode cX5_isRouter 7 = .ok (.if_icmp .ge 7, 3) := by decide +kernel
theorem dX5_isRouter_10 : decode cX5_isRouter 10 = .ok (.iconst 1, 1) := by decide +kernel
theorem dX5_isRouter_11 : decode cX5_isRouter 11 = .ok (.goto 4, 3) := by decide +kernel
theorem dX5_isRouter_14 : decode cX5_isRouter 14 = .ok (.iconst 0, 1) := by decide +kernel
theorem dX5_isRouter_15 : decode cX5_isRouter 15 = .ok (.ireturn, 1) := by decide +kernel
theorem dX5_isGroup_0 : decode cX5_isGroup 0 = .ok (.iload_n 0, 1) := by decide +kernel
theorem dX5_isGroup_1 : decode cX5_isGroup 1 = .ok (.ifCond .lt 12, 3) := by decide +kernel
theorem dX5_isGroup_4 : decode cX5_isGroup 4 = .ok (.iload_n 0, 1) := by decide +kernel
theorem dX5_isGroup_5 : decode cX5_isGroup 5 = .ok (.iconst 4, 1) := by decide +kernel
theorem dX5_isGroup_6 : decode cX5_isGroup 6 = .ok (.if_icmp .ge 7, 3) := by decide +kernel
theorem dX5_isGroup_9 : decode cX5_isGroup 9 = .ok (.iconst 1, 1) := by decide +kernel
theorem dX5_isGroup_10 : decode cX5_isGroup 10 = .ok (.goto 4, 3) := by decide +kernel
theorem dX5_isGroup_13 : decode cX5_isGroup 13 = .ok (.iconst 0, 1) := by decide +kernel
theorem dX5_isGroup_14 : decode cX5_isGroup 14 = .ok (.ireturn, 1) := by decide +kernel
theorem dX5_isTree_0 : decode cX5_isTree 0 = .ok (.iload_n 0, 1) := by decide +kernel
theorem dX5_isTree_1 : decode cX5_isTree 1 = .ok (.ifCond .lt 13, 3) := by decide +kernel
theorem dX5_isTree_4 : decode cX5_isTree 4 = .ok (.iload_n 0, 1) := by decide +kernel
theorem dX5_isTree_5 : decode cX5_isTree 5 = .ok (.bipush 44, 2) := by decide +kernel
theorem dX5_isTree_7 : decode cX5_isTree 7 = .ok (.if_icmp .ge 7, 3) := by decide +kernel
theorem dX5_isTree_10 : decode cX5_isTree 10 = .ok (.iconst 1, 1) := by decide +kernel
theorem dX5_isTree_11 : decode cX5_isTree 11 = .ok (.goto 4, 3) := by decide +kernel
theorem dX5_isTree_14 : decode cX5_isTree 14 = .ok (.iconst 0, 1) := by decide +kernel
theorem dX5_isTree_15 : decode cX5_isTree 15 = .ok (.ireturn, 1) := by decide +kernel
theorem dX5_sharedTree_0 : decode cX5_sharedTree 0 = .ok (.iload_n 0, 1) := by decide +kernel
theorem dX5_sharedTree_1 : decode cX5_sharedTree 1 = .ok (.invokestatic 257, 3) := by decide +kernel
theorem dX5_sharedTree_4 : decode cX5_sharedTree 4 = .ok (.ifCond .eq 7, 3) := by decide +kernel
theorem dX5_sharedTree_7 : decode cX5_sharedTree 7 = .ok (.iload_n 0, 1) := by decide +kernel
theorem dX5_sharedTree_8 : decode cX5_sharedTree 8 = .ok (.goto 4, 3) := by decide +kernel
theorem dX5_sharedTree_11 : decode cX5_sharedTree 11 = .ok (.iconst (-1), 1) := by decide +kernel
theorem dX5_sharedTree_12 : decode cX5_sharedTree 12 = .ok (.ireturn, 1) := by decide +kernel
theorem dX5_sourceTree_0 : decode cX5_sourceTree 0 = .ok (.iload_n 0, 1) := by decide +kernel
theorem dX5_sourceTree_1 : decode cX5_sourceTree 1 = .ok (.invokestatic 252, 3) := by decide +kernel
theorem dX5_sourceTree_4 : decode cX5_sourceTree 4 = .ok (.ifCond .eq 21, 3) := by decide +kernel
theorem dX5_sourceTree_7 : decode cX5_sourceTree 7 = .ok (.iload_n 1, 1) := by decide +kernel
theorem dX5_sourceTree_8 : decode cX5_sourceTree 8 = .ok (.invokestatic 257, 3) := by decide +kernel
theorem dX5_sourceTree_11 : decode cX5_sourceTree 11 = .ok (.ifCond .eq 14, 3) := by decide +kernel
theorem dX5_sourceTree_14 : decode cX5_sourceTree 14 = .ok (.iconst 4, 1) := by decide +kernel
theorem dX5_sourceTree_15 : decode cX5_sourceTree 15 = .ok (.iload_n 1, 1) := by decide +kernel
theorem dX5_sourceTree_16 : decode cX5_sourceTree 16 = .ok (.bipush 10, 2) := by decide +kernel
theorem dX5_sourceTree_18 : decode cX5_sourceTree 18 = .ok (.imul, 1) := by decide +kernel
theorem dX5_sourceTree_19 : decode cX5_sourceTree 19 = .ok (.iadd, 1) := by decide +kernel
theorem dX5_sourceTree_20 : decode cX5_sourceTree 20 = .ok (.iload_n 0, 1) := by decide +kernel
theorem dX5_sourceTree_21 : decode cX5_sourceTree 21 = .ok (.iadd, 1) := by decide +kernel
theorem dX5_sourceTree_22 : decode cX5_sourceTree 22 = .ok (.goto 4, 3) := by decide +kernel
theorem dX5_sourceTree_25 : decode cX5_sourceTree 25 = .ok (.iconst (-1), 1) := by decide +kernel
theorem dX5_sourceTree_26 : decode cX5_sourceTree 26 = .ok (.ireturn, 1) := by decide +kernel
theorem dX5_isShared_0 : decode cX5_isShared 0 = .ok (.iload_n 0, 1) := by decide +kernel
theorem dX5_isShared_1 : decode cX5_isShared 1 = .ok (.ifCond .lt 12, 3) := by decide +kernel
theorem dX5_isShared_4 : decode cX5_isShared 4 = .ok (.iload_n 0, 1) := by decide +kernel
theorem dX5_isShared_5 : decode cX5_isShared 5 = .ok (.iconst 4, 1) := by decide +kernel
theorem dX5_isShared_6 : decode cX5_isShared 6 = .ok (.if_icmp .ge 7, 3) := by decide +kernel
theorem dX5_isShared_9 : decode cX5_isShared 9 = .ok (.iconst 1, 1) := by decide +kernel
theorem dX5_isShared_10 : decode cX5_isShared 10 = .ok (.goto 4, 3) := by decide +kernel
theorem dX5_isShared_13 : decode cX5_isShared 13 = .ok (.iconst 0, 1) := by decide +kernel
theorem dX5_isShared_14 : decode cX5_isShared 14 = .ok (.ireturn, 1) := by decide +kernel
theorem dX5_bit_0 : decode cX5_bit 0 = .ok (.iconst 1, 1) := by decide +kernel
theorem dX5_bit_1 : decode cX5_bit 1 = .ok (.iload_n 0, 1) := by decide +kernel
theorem dX5_bit_2 : decode cX5_bit 2 = .ok (.ishl, 1) := by decide +kernel
theorem dX5_bit_3 : decode cX5_bit 3 = .ok (.ireturn, 1) := by decide +kernel
theorem dX5_has_0 : decode cX5_has 0 = .ok (.iload_n 1, 1) := by decide +kernel
theorem dX5_has_1 : decode cX5_has 1 = .ok (.invokestatic 252, 3) := by decide +kernel
theorem dX5_has_4 : decode cX5_has 4 = .ok (.ifCond .eq 16, 3) := by decide +kernel
theorem dX5_has_7 : decode cX5_has 7 = .ok (.iload_n 0, 1) := by decide +kernel
theorem dX5_has_8 : decode cX5_has 8 = .ok (.iload_n 1, 1) := by decide +kernel
theorem dX5_has_9 : decode cX5_has 9 = .ok (.invokestatic 78, 3) := by decide +kernel
theorem dX5_has_12 : decode cX5_has 12 = .ok (.iand, 1) := by decide +kernel
theorem dX5_has_13 : decode cX5_has 13 = .ok (.ifCond .eq 7, 3) := by decide +kernel
theorem dX5_has_16 : decode cX5_has 16 = .ok (.iconst 1, 1) := by decide +kernel
theorem dX5_has_17 : decode cX5_has 17 = .ok (.goto 4, 3) := by decide +kernel
theorem dX5_has_20 : decode cX5_has 20 = .ok (.iconst 0, 1) := by decide +kernel
theorem dX5_has_21 : decode cX5_has 21 = .ok (.ireturn, 1) := by decide +kernel
