theorem dX4_init_0 : decode cX4_init 0 = .ok (.aload_n 0, 1) := by decide +kernel
theorem dX4_init_1 : decode cX4_init 1 = .ok (.invokespecial 3, 3) := by decide +kernel
theorem dX4_init_4 : decode cX4_init 4 = .ok (.aload_n 0, 1) := by decide +kernel
theorem dX4_init_5 : decode cX4_init 5 = .ok (.bipush 100, 2) := by decide +kernel
theorem dX4_init_7 : decode cX4_init 7 = .ok (.newarray .int, 2) := by decide +kernel
theorem dX4_init_9 : decode cX4_init 9 = .ok (.putfield 9, 3) := by decide +kernel
theorem dX4_init_12 : decode cX4_init 12 = .ok (.aload_n 0, 1) := by decide +kernel
theorem dX4_init_13 : decode cX4_init 13 = .ok (.bipush 100, 2) := by decide +kernel
theorem dX4_init_15 : decode cX4_init 15 = .ok (.newarray .int, 2) := by decide +kernel
theorem dX4_init_17 : decode cX4_init 17 = .ok (.putfield 15, 3) := by decide +kernel
theorem dX4_init_20 : decode cX4_init 20 = .ok (.aload_n 0, 1) := by decide +kernel
theorem dX4_init_21 : decode cX4_init 21 = .ok (.bipush 100, 2) := by decide +kernel
theorem dX4_init_23 : decode cX4_init 23 = .ok (.newarray .int, 2) := by decide +kernel
theorem dX4_init_25 : decode cX4_init 25 = .ok (.putfield 18, 3) := by decide +kernel
theorem dX4_init_28 : decode cX4_init 28 = .ok (.aload_n 0, 1) := by decide +kernel
theorem dX4_init_29 : decode cX4_init 29 = .ok (.invokevirtual 21, 3) := by decide +kernel
theorem dX4_init_32 : decode cX4_init 32 = .ok (.aload_n 0, 1) := by decide +kernel
theorem dX4_init_33 : decode cX4_init 33 = .ok (.invokevirtual 24, 3) := by decide +kernel
theorem dX4_init_36 : decode cX4_init 36 = .ok (.return_, 1) := by decide +kernel
theorem dX4_change_0 : decode cX4_change 0 = .ok (.iload_n 1, 1) := by decide +kernel
theorem dX4_change_1 : decode cX4_change 1 = .ok (.iload_n 2, 1) := by decide +kernel
theorem dX4_change_2 : decode cX4_change 2 = .ok (.invokestatic 27, 3) := by decide +kernel
theorem dX4_change_5 : decode cX4_change 5 = .ok (.ifCond .eq 35, 3) := by decide +kernel
theorem dX4_change_8 : decode cX4_change 8 = .ok (.aload_n 0, 1) := by decide +kernel
theorem dX4_change_9 : decode cX4_change 9 = .ok (.getfield 9, 3) := by decide +kernel
theorem dX4_change_12 : decode cX4_change 12 = .ok (.iload_n 1, 1) := by decide +kernel
theorem dX4_change_13 : decode cX4_change 13 = .ok (.bipush 10, 2) := by decide +kernel
theorem dX4_change_15 : decode cX4_change 15 = .ok (.imul, 1) := by decide +kernel
theorem dX4_change_16 : decode cX4_change 16 = .ok (.iload_n 2, 1) := by decide +kernel
theorem dX4_change_17 : decode cX4_change 17 = .ok (.iadd, 1) := by decide +kernel
theorem dX4_change_18 : decode cX4_change 18 = .ok (.iload_n 3, 1) := by decide +kernel
theorem dX4_change_19 : decode cX4_change 19 = .ok (.iastore, 1) := by decide +kernel
theorem dX4_change_20 : decode cX4_change 20 = .ok (.aload_n 0, 1) := by decide +kernel
theorem dX4_change_21 : decode cX4_change 21 = .ok (.getfield 9, 3) := by decide +kernel
theorem dX4_change_24 : decode cX4_change 24 = .ok (.iload_n 2, 1) := by decide +kernel
theorem dX4_change_25 : decode cX4_change 25 = .ok (.bipush 10, 2) := by decide +kernel
theorem dX4_change_27 : decode cX4_change 27 = .ok (.imul, 1) := by decide +kernel
theorem dX4_change_28 : decode cX4_change 28 = .ok (.iload_n 1, 1) := by decide +kernel
theorem dX4_change_29 : decode cX4_change 29 = .ok (.iadd, 1) := by decide +kernel
theorem dX4_change_30 : decode cX4_change 30 = .ok (.iload_n 3, 1) := by decide +kernel
theorem dX4_change_31 : decode cX4_change 31 = .ok (.iastore, 1) := by decide +kernel
theorem dX4_change_32 : decode cX4_change 32 = .ok (.aload_n 0, 1) := by decide +kernel
theorem dX4_change_33 : decode cX4_change 33 = .ok (.invokevirtual 21, 3) := by decide +kernel
theorem dX4_change_36 : decode cX4_change 36 = .ok (.aload_n 0, 1) := by decide +kernel
theorem dX4_change_37 : decode cX4_change 37 = .ok (.invokevirtual 24, 3) := by decide +kernel
theorem dX4_change_40 : decode cX4_change 40 = .ok (.return_, 1) := by decide +kernel
theorem dX4_costOf_0 : decode cX4_costOf 0 = .ok (.iload_n 1, 1) := by decide +kernel
theorem dX4_costOf_1 : decode cX4_costOf 1 = .ok (.iload_n 2, 1) := by decide +kernel
theorem dX4_costOf_2 : decode cX4_costOf 2 = .ok (.invokestatic 27, 3) := by decide +kernel
theorem dX4_costOf_5 : decode cX4_costOf 5 = .ok (.ifCond .eq 17, 3) := by decide +kernel
theorem dX4_costOf_8 : decode cX4_costOf 8 = .ok (.aload_n 0, 1) := by decide +kernel
theorem dX4_costOf_9 : decode cX4_costOf 9 = .ok (.getfield 9, 3) := by decide +kernel
theorem dX4_costOf_12 : decode cX4_costOf 12 = .ok (.iload_n 1, 1) := by decide +kernel
theorem dX4_costOf_13 : decode cX4_costOf 13 = .ok (.bipush 10, 2) := by decide +kernel
theorem dX4_costOf_15 : decode cX4_costOf 15 = .ok (.imul, 1) := by decide +kernel
theorem dX4_costOf_16 : decode cX4_costOf 16 = .ok (.iload_n 2, 1) := by decide +kernel
theorem dX4_costOf_17 : decode cX4_costOf 17 = .ok (.iadd, 1) := by decide +kernel
theorem dX4_costOf_18 : decode cX4_costOf 18 = .ok (.iaload, 1) := by decide +kernel
theorem dX4_costOf_19 : decode cX4_costOf 19 = .ok (.goto 4, 3) := by decide +kernel
theorem dX4_costOf_22 : decode cX4_costOf 22 = .ok (.iconst 0, 1) := by decide +kernel
theorem dX4_costOf_23 : decode cX4_costOf 23 = .ok (.ireturn, 1) := by decide +kernel
theorem dX4_distanceOf_0 : decode cX4_distanceOf 0 = .ok (.iload_n 1, 1) := by decide +kernel
theorem dX4_distanceOf_1 : decode cX4_distanceOf 1 = .ok (.iload_n 2, 1) := by decide +kernel
theorem dX4_distanceOf_2 : decode cX4_distanceOf 2 = .ok (.invokestatic 27, 3) := by decide +kernel
theorem dX4_distanceOf_5 : decode cX4_distanceOf 5 = .ok (.ifCond .ne 5, 3) := by decide +kernel
theorem dX4_distanceOf_8 : decode cX4_distanceOf 8 = .ok (.iconst (-1), 1) := by decide +kernel
theorem dX4_distanceOf_9 : decode cX4_distanceOf 9 = .ok (.ireturn, 1) := by decide +kernel
theorem dX4_distanceOf_10 : decode cX4_distanceOf 10 = .ok (.aload_n 0, 1) := by decide +kernel
theorem dX4_distanceOf_11 : decode cX4_distanceOf 11 = .ok (.getfield 15, 3) := by decide +kernel
theorem dX4_distanceOf_14 : decode cX4_distanceOf 14 = .ok (.iload_n 1, 1) := by decide +kernel
theorem dX4_distanceOf_15 : decode cX4_distanceOf 15 = .ok (.bipush 10, 2) := by decide +kernel
theorem dX4_distanceOf_17 : decode cX4_distanceOf 17 = .ok (.imul, 1) := by decide +kernel
theorem dX4_distanceOf_18 : decode cX4_distanceOf 18 = .ok (.iload_n 2, 1) := by decide +kernel
theorem dX4_distanceOf_19 : decode cX4_distanceOf 19 = .ok (.iadd, 1) := by decide +kernel
theorem dX4_distanceOf_20 : decode cX4_distanceOf 20 = .ok (.iaload, 1) := by decide +kernel
theorem dX4_distanceOf_21 : decode cX4_distanceOf 21 = .ok (.istore_n 3, 1) := by decide +kernel
theorem dX4_distanceOf_22 : decode cX4_distanceOf 22 = .ok (.iload_n 3, 1) := by decide +kernel
theorem dX4_distanceOf_23 : decode cX4_distanceOf 23 = .ok (.ldc 31, 2) := by decide +kernel
theorem dX4_distanceOf_25 : decode cX4_distanceOf 25 = .ok (.if_icmp .ge 7, 3) := by decide +kernel
theorem dX4_distanceOf_28 : decode cX4_distanceOf 28 = .ok (.iload_n 3, 1) := by decide +kernel
theorem dX4_distanceOf_29 : decode cX4_distanceOf 29 = .ok (.goto 4, 3) := by decide +kernel
theorem dX4_distanceOf_32 : decode cX4_distanceOf 32 = .ok (.iconst (-1), 1) := by decide +kernel
theorem dX4_distanceOf_33 : decode cX4_distanceOf 33 = .ok (.ireturn, 1) := by decide +kernel
theorem dX4_hopOf_0 : decode cX4_hopOf 0 = .ok (.iload_n 1, 1) := by decide +kernel
theorem dX4_hopOf_1 : decode cX4_hopOf 1 = .ok (.iload_n 2, 1) := by decide +kernel
theorem dX4_hopOf_2 : decode cX4_hopOf 2 = .ok (.invokestatic 27, 3) := by decide +kernel
theorem dX4_hopOf_5 : decode cX4_hopOf 5 = .ok (.ifCond .eq 17, 3) := by decide +kernel
theorem dX4_hopOf_8 : decode cX4_hopOf 8 = .ok (.aload_n 0, 1) := by decide +kernel
theorem dX4_hopOf_9 : decode cX4_hopOf 9 = .ok (.getfield 18, 3) := by decide +kernel
theorem dX4_hopOf_12 : decode cX4_hopOf 12 = .ok (.iload_n 1, 1) := by decide +kernel
theorem dX4_hopOf_13 : decode cX4_hopOf 13 = .ok (.bipush 10, 2) := by decide +kernel
theorem dX4_hopOf_15 : decode cX4_hopOf 15 = .ok (.imul, 1) := by decide +kernel
theorem dX4_hopOf_16 : decode cX4_hopOf 16 = .ok (.iload_n 2, 1) := by decide +kernel
theorem dX4_hopOf_17 : decode cX4_hopOf 17 = .ok (.iadd, 1) := by decide +kernel
theorem dX4_hopOf_18 : decode cX4_hopOf 18 = .ok (.iaload, 1) := by decide +kernel
theorem dX4_hopOf_19 : decode cX4_hopOf 19 = .ok (.goto 4, 3) := by decide +kernel
theorem dX4_hopOf_22 : decode cX4_hopOf 22 = .ok (.iconst (-1), 1) := by decide +kernel
theorem dX4_hopOf_23 : decode cX4_hopOf 23 = .ok (.ireturn, 1) := by decide +kernel
theorem dX4_linksOf_0 : decode cX4_linksOf 0 = .ok (.iconst 0, 1) := by decide +kernel
theorem dX4_linksOf_1 : decode cX4_linksOf 1 = .ok (.istore_n 2, 1) := by decide +kernel
theorem dX4_linksOf_2 : decode cX4_linksOf 2 = .ok (.iconst 0, 1) := by decide +kernel
theorem dX4_linksOf_3 : decode cX4_linksOf 3 = .ok (.istore_n 3, 1) := by decide +kernel
theorem dX4_linksOf_4 : decode cX4_linksOf 4 = .ok (.iload_n 3, 1) := by decide +kernel
theorem dX4_linksOf_5 : decode cX4_linksOf 5 = .ok (.bipush 10, 2) := by decide +kernel
theorem dX4_linksOf_7 : decode cX4_linksOf 7 = .ok (.if_icmp .ge 21, 3) := by decide +kernel
theorem dX4_linksOf_10 : decode cX4_linksOf 10 = .ok (.aload_n 0, 1) := by decide +kernel
theorem dX4_linksOf_11 : decode cX4_linksOf 11 = .ok (.iload_n 1, 1) := by decide +kernel
theorem dX4_linksOf_12 : decode cX4_linksOf 12 = .ok (.iload_n 3, 1) := by decide +kernel
theorem dX4_linksOf_13 : decode cX4_linksOf 13 = .ok (.invokevirtual 32, 3) := by decide +kernel
theorem dX4_linksOf_16 : decode cX4_linksOf 16 = .ok (.ifCond .eq 6, 3) := by decide +kernel
theorem dX4_linksOf_19 : decode cX4_linksOf 19 = .ok (.iinc 2 1, 3) := by decide +kernel
theorem dX4_linksOf_22 : decode cX4_linksOf 22 = .ok (.iinc 3 1, 3) := by decide +kernel
theorem dX4_linksOf_25 : decode cX4_linksOf 25 = .ok (.goto (-21), 3) := by decide +kernel
theorem dX4_linksOf_28 : decode cX4_linksOf 28 = .ok (.iload_n 2, 1) := by decide +kernel
theorem dX4_linksOf_29 : decode cX4_linksOf 29 = .ok (.ireturn, 1) := by decide +kernel
theorem dX4_arePair_0 : decode cX4_arePair 0 = .ok (.iload_n 0, 1) := by decide +kernel
theorem dX4_arePair_1 : decode cX4_arePair 1 = .ok (.ifCond .lt 23, 3) := by decide +kernel
theorem dX4_arePair_4 : decode cX4_arePair 4 = .ok (.iload_n 0, 1) := by decide +kernel
theorem dX4_arePair_5 : decode cX4_arePair 5 = .ok (.bipush 10, 2) := by decide +kernel
theorem dX4_arePair_7 : decode cX4_arePair 7 = .ok (.if_icmp .ge 17, 3) := by decide +kernel
theorem dX4_arePair_10 : decode cX4_arePair 10 = .ok (.iload_n 1, 1) := by decide +kernel
theorem dX4_arePair_11 : decode cX4_arePair 11 = .ok (.ifCond .lt 13, 3) := by decide +kernel
theorem dX4_arePair_14 : decode cX4_arePair 14 = .ok (.iload_n 1, 1) := by decide +kernel
theorem dX4_arePair_15 : decode cX4_arePair 15 = .ok (.bipush 10, 2) := by decide +kernel
theorem dX4_arePair_17 : decode cX4_arePair 17 = .ok (.if_icmp .ge 7, 3) := by decide +kernel
theorem dX4_arePair_20 : decode cX4_arePair 20 = .ok (.iconst 1, 1) := by decide +kernel
theorem dX4_arePair_21 : decode cX4_arePair 21 = .ok (.goto 4, 3) := by decide +kernel
theorem dX4_arePair_24 : decode cX4_arePair 24 = .ok (.iconst 0, 1) := by decide +kernel
theorem dX4_arePair_25 : decode cX4_arePair 25 = .ok (.ireturn, 1) := by decide +kernel
theorem dX4_findLeast_0 : decode cX4_findLeast 0 = .ok (.iconst 0, 1) := by decide +kernel
theorem dX4_findLeast_1 : decode cX4_findLeast 1 = .ok (.istore_n 1, 1) := by decide +kernel
theorem dX4_findLeast_2 : decode cX4_findLeast 2 = .ok (.iload_n 1, 1) := by decide +kernel
theorem dX4_findLeast_3 : decode cX4_findLeast 3 = .ok (.bipush 10, 2) := by decide +kernel
theorem dX4_findLeast_5 : decode cX4_findLeast 5 = .ok (.if_icmp .ge 65, 3) := by decide +kernel
theorem dX4_findLeast_8 : decode cX4_findLeast 8 = .ok (.iconst 0, 1) := by decide +kernel
theorem dX4_findLeast_9 : decode cX4_findLeast 9 = .ok (.istore_n 2, 1) := by decide +kernel
theorem dX4_findLeast_10 : decode cX4_findLeast 10 = .ok (.iload_n 2, 1) := by decide +kernel
theorem dX4_findLeast_11 : decode cX4_findLeast 11 = .ok (.bipush 10, 2) := by decide +kernel
theorem dX4_findLeast_13 : decode cX4_findLeast 13 = .ok (.if_icmp .ge 51, 3) := by decide +kernel
theorem dX4_findLeast_16 : decode cX4_findLeast 16 = .ok (.aload_n 0, 1) := by decide +kernel
theorem dX4_findLeast_17 : decode cX4_findLeast 17 = .ok (.getfield 9, 3) := by decide +kernel
theorem dX4_findLeast_20 : decode cX4_findLeast 20 = .ok (.iload_n 1, 1) := by decide +kernel
theorem dX4_findLeast_21 : decode cX4_findLeast 21 = .ok (.bipush 10, 2) := by decide +kernel
theorem dX4_findLeast_23 : decode cX4_findLeast 23 = .ok (.imul, 1) := by decide +kernel
theorem dX4_findLeast_24 : decode cX4_findLeast 24 = .ok (.iload_n 2, 1) := by decide +kernel
theorem dX4_findLeast_25 : decode cX4_findLeast 25 = .ok (.iadd, 1) := by decide +kernel
theorem dX4_findLeast_26 : decode cX4_findLeast 26 = .ok (.iaload, 1) := by decide +kernel
theorem dX4_findLeast_27 : decode cX4_findLeast 27 = .ok (.istore_n 3, 1) := by decide +kernel
theorem dX4_findLeast_28 : decode cX4_findLeast 28 = .ok (.aload_n 0, 1) := by decide +kernel
theorem dX4_findLeast_29 : decode cX4_findLeast 29 = .ok (.getfield 15, 3) := by decide +kernel
theorem dX4_findLeast_32 : decode cX4_findLeast 32 = .ok (.iload_n 1, 1) := by decide +kernel
theorem dX4_findLeast_33 : decode cX4_findLeast 33 = .ok (.bipush 10, 2) := by decide +kernel
theorem dX4_findLeast_35 : decode cX4_findLeast 35 = .ok (.imul, 1) := by decide +kernel
theorem dX4_findLeast_36 : decode cX4_findLeast 36 = .ok (.iload_n 2, 1) := by decide +kernel
theorem dX4_findLeast_37 : decode cX4_findLeast 37 = .ok (.iadd, 1) := by decide +kernel
theorem dX4_findLeast_38 : decode cX4_findLeast 38 = .ok (.iload_n 1, 1) := by decide +kernel
theorem dX4_findLeast_39 : decode cX4_findLeast 39 = .ok (.iload_n 2, 1) := by decide +kernel
theorem dX4_findLeast_40 : decode cX4_findLeast 40 = .ok (.if_icmp .ne 7, 3) := by decide +kernel
theorem dX4_findLeast_43 : decode cX4_findLeast 43 = .ok (.iconst 0, 1) := by decide +kernel
theorem dX4_findLeast_44 : decode cX4_findLeast 44 = .ok (.goto 13, 3) := by decide +kernel
theorem dX4_findLeast_47 : decode cX4_findLeast 47 = .ok (.iload_n 3, 1) := by decide +kernel
theorem dX4_findLeast_48 : decode cX4_findLeast 48 = .ok (.ifCond .ne 8, 3) := by decide +kernel
theorem dX4_findLeast_51 : decode cX4_findLeast 51 = .ok (.ldc 31, 2) := by decide +kernel
theorem dX4_findLeast_53 : decode cX4_findLeast 53 = .ok (.goto 4, 3) := by decide +kernel
theorem dX4_findLeast_56 : decode cX4_findLeast 56 = .ok (.iload_n 3, 1) := by decide +kernel
theorem dX4_findLeast_57 : decode cX4_findLeast 57 = .ok (.iastore, 1) := by decide +kernel
theorem dX4_findLeast_58 : decode cX4_findLeast 58 = .ok (.iinc 2 1, 3) := by decide +kernel
theorem dX4_findLeast_61 : decode cX4_findLeast 61 = .ok (.goto (-51), 3) := by decide +kernel
theorem dX4_findLeast_64 : decode cX4_findLeast 64 = .ok (.iinc 1 1, 3) := by decide +kernel
theorem dX4_findLeast_67 : decode cX4_findLeast 67 = .ok (.goto (-65), 3) := by decide +kernel
theorem dX4_findLeast_70 : decode cX4_findLeast 70 = .ok (.iconst 0, 1) := by decide +kernel
theorem dX4_findLeast_71 : decode cX4_findLeast 71 = .ok (.istore_n 1, 1) := by decide +kernel
theorem dX4_findLeast_72 : decode cX4_findLeast 72 = .ok (.iload_n 1, 1) := by decide +kernel
theorem dX4_findLeast_73 : decode cX4_findLeast 73 = .ok (.bipush 10, 2) := by decide +kernel
theorem dX4_findLeast_75 : decode cX4_findLeast 75 = .ok (.if_icmp .ge 14, 3) := by decide +kernel
theorem dX4_findLeast_78 : decode cX4_findLeast 78 = .ok (.aload_n 0, 1) := by decide +kernel
theorem dX4_findLeast_79 : decode cX4_findLeast 79 = .ok (.iload_n 1, 1) := by decide +kernel
theorem dX4_findLeast_80 : decode cX4_findLeast 80 = .ok (.invokevirtual 36, 3) := by decide +kernel
theorem dX4_findLeast_83 : decode cX4_findLeast 83 = .ok (.iinc 1 1, 3) := by decide +kernel
theorem dX4_findLeast_86 : decode cX4_findLeast 86 = .ok (.goto (-14), 3) := by decide +kernel
theorem dX4_findLeast_89 : decode cX4_findLeast 89 = .ok (.return_, 1) := by decide +kernel
theorem dX4_shortenThrough_0 : decode cX4_shortenThrough 0 = .ok (.iconst 0, 1) := by decide +kernel
theorem dX4_shortenThrough_1 : decode cX4_shortenThrough 1 = .ok (.istore_n 2, 1) := by decide +kernel
theorem dX4_shortenThrough_2 : decode cX4_shortenThrough 2 = .ok (.iload_n 2, 1) := by decide +kernel
theorem dX4_shortenThrough_3 : decode cX4_shortenThrough 3 = .ok (.bipush 10, 2) := by decide +kernel
theorem dX4_shortenThrough_5 : decode cX4_shortenThrough 5 = .ok (.if_icmp .ge 77, 3) := by decide +kernel
theorem dX4_shortenThrough_8 : decode cX4_shortenThrough 8 = .ok (.iconst 0, 1) := by decide +kernel
theorem dX4_shortenThrough_9 : decode cX4_shortenThrough 9 = .ok (.istore_n 3, 1) := by decide +kernel
theorem dX4_shortenThrough_10 : decode cX4_shortenThrough 10 = .ok (.iload_n 3, 1) := by decide +kernel
theorem dX4_shortenThrough_11 : decode cX4_shortenThrough 11 = .ok (.bipush 10, 2) := by decide +kernel
theorem dX4_shortenThrough_13 : decode cX4_shortenThrough 13 = .ok (.if_icmp .ge 63, 3) := by decide +kernel
theorem dX4_shortenThrough_16 : decode cX4_shortenThrough 16 = .ok (.aload_n 0, 1) := by decide +kernel
theorem dX4_shortenThrough_17 : decode cX4_shortenThrough 17 = .ok (.getfield 15, 3) := by decide +kernel
theorem dX4_shortenThrough_20 : decode cX4_shortenThrough 20 = .ok (.iload_n 2, 1) := by decide +kernel
theorem dX4_shortenThrough_21 : decode cX4_shortenThrough 21 = .ok (.bipush 10, 2) := by decide +kernel
theorem dX4_shortenThrough_23 : decode cX4_shortenThrough 23 = .ok (.imul, 1) := by decide +kernel
theorem dX4_shortenThrough_24 : decode cX4_shortenThrough 24 = .ok (.iload_n 1, 1) := by decide +kernel
theorem dX4_shortenThrough_25 : decode cX4_shortenThrough 25 = .ok (.iadd, 1) := by decide +kernel
theorem dX4_shortenThrough_26 : decode cX4_shortenThrough 26 = .ok (.iaload, 1) := by decide +kernel
theorem dX4_shortenThrough_27 : decode cX4_shortenThrough 27 = .ok (.aload_n 0, 1) := by decide +kernel
theorem dX4_shortenThrough_28 : decode cX4_shortenThrough 28 = .ok (.getfield 15, 3) := by decide +kernel
theorem dX4_shortenThrough_31 : decode cX4_shortenThrough 31 = .ok (.iload_n 1, 1) := by decide +kernel
theorem dX4_shortenThrough_32 : decode cX4_shortenThrough 32 = .ok (.bipush 10, 2) := by decide +kernel
theorem dX4_shortenThrough_34 : decode cX4_shortenThrough 34 = .ok (.imul, 1) := by decide +kernel
theorem dX4_shortenThrough_35 : decode cX4_shortenThrough 35 = .ok (.iload_n 3, 1) := by decide +kernel
theorem dX4_shortenThrough_36 : decode cX4_shortenThrough 36 = .ok (.iadd, 1) := by decide +kernel
theorem dX4_shortenThrough_37 : decode cX4_shortenThrough 37 = .ok (.iaload, 1) := by decide +kernel
theorem dX4_shortenThrough_38 : decode cX4_shortenThrough 38 = .ok (.iadd, 1) := by decide +kernel
theorem dX4_shortenThrough_39 : decode cX4_shortenThrough 39 = .ok (.istore 4, 2) := by decide +kernel
theorem dX4_shortenThrough_41 : decode cX4_shortenThrough 41 = .ok (.iload 4, 2) := by decide +kernel
theorem dX4_shortenThrough_43 : decode cX4_shortenThrough 43 = .ok (.aload_n 0, 1) := by decide +kernel
theorem dX4_shortenThrough_44 : decode cX4_shortenThrough 44 = .ok (.getfield 15, 3) := by decide +kernel
theorem dX4_shortenThrough_47 : decode cX4_shortenThrough 47 = .ok (.iload_n 2, 1) := by decide +kernel
theorem dX4_shortenThrough_48 : decode cX4_shortenThrough 48 = .ok (.bipush 10, 2) := by decide +kernel
theorem dX4_shortenThrough_50 : decode cX4_shortenThrough 50 = .ok (.imul, 1) := by decide +kernel
theorem dX4_shortenThrough_51 : decode cX4_shortenThrough 51 = .ok (.iload_n 3, 1) := by decide +kernel
theorem dX4_shortenThrough_52 : decode cX4_shortenThrough 52 = .ok (.iadd, 1) := by decide +kernel
theorem dX4_shortenThrough_53 : decode cX4_shortenThrough 53 = .ok (.iaload, 1) := by decide +kernel
theorem dX4_shortenThrough_54 : decode cX4_shortenThrough 54 = .ok (.if_icmp .ge 16, 3) := by decide +kernel
theorem dX4_shortenThrough_57 : decode cX4_shortenThrough 57 = .ok (.aload_n 0, 1) := by decide +kernel
theorem dX4_shortenThrough_58 : decode cX4_shortenThrough 58 = .ok (.getfield 15, 3) := by decide +kernel
theorem dX4_shortenThrough_61 : decode cX4_shortenThrough 61 = .ok (.iload_n 2, 1) := by decide +kernel
theorem dX4_shortenThrough_62 : decode cX4_shortenThrough 62 = .ok (.bipush 10, 2) := by decide +kernel
theorem dX4_shortenThrough_64 : decode cX4_shortenThrough 64 = .ok (.imul, 1) := by decide +kernel
theorem dX4_shortenThrough_65 : decode cX4_shortenThrough 65 = .ok (.iload_n 3, 1) := by decide +kernel
theorem dX4_shortenThrough_66 : decode cX4_shortenThrough 66 = .ok (.iadd, 1) := by decide +kernel
theorem dX4_shortenThrough_67 : decode cX4_shortenThrough 67 = .ok (.iload 4, 2) := by decide +kernel
theorem dX4_shortenThrough_69 : decode cX4_shortenThrough 69 = .ok (.iastore, 1) := by decide +kernel
theorem dX4_shortenThrough_70 : decode cX4_shortenThrough 70 = .ok (.iinc 3 1, 3) := by decide +kernel
theorem dX4_shortenThrough_73 : decode cX4_shortenThrough 73 = .ok (.goto (-63), 3) := by decide +kernel
theorem dX4_shortenThrough_76 : decode cX4_shortenThrough 76 = .ok (.iinc 2 1, 3) := by decide +kernel
theorem dX4_shortenThrough_79 : decode cX4_shortenThrough 79 = .ok (.goto (-77), 3) := by decide +kernel
theorem dX4_shortenThrough_82 : decode cX4_shortenThrough 82 = .ok (.return_, 1) := by decide +kernel
theorem dX4_findHops_0 : decode cX4_findHops 0 = .ok (.iconst 0, 1) := by decide +kernel
theorem dX4_findHops_1 : decode cX4_findHops 1 = .ok (.istore_n 1, 1) := by decide +kernel
theorem dX4_findHops_2 : decode cX4_findHops 2 = .ok (.iload_n 1, 1) := by decide +kernel
theorem dX4_findHops_3 : decode cX4_findHops 3 = .ok (.bipush 10, 2) := by decide +kernel
theorem dX4_findHops_5 : decode cX4_findHops 5 = .ok (.if_icmp .ge 40, 3) := by decide +kernel
theorem dX4_findHops_8 : decode cX4_findHops 8 = .ok (.iconst 0, 1) := by decide +kernel
theorem dX4_findHops_9 : decode cX4_findHops 9 = .ok (.istore_n 2, 1) := by decide +kernel
theorem dX4_findHops_10 : decode cX4_findHops 10 = .ok (.iload_n 2, 1) := by decide +kernel
theorem dX4_findHops_11 : decode cX4_findHops 11 = .ok (.bipush 10, 2) := by decide +kernel
theorem dX4_findHops_13 : decode cX4_findHops 13 = .ok (.if_icmp .ge 26, 3) := by decide +kernel
theorem dX4_findHops_16 : decode cX4_findHops 16 = .ok (.aload_n 0, 1) := by decide +kernel
theorem dX4_findHops_17 : decode cX4_findHops 17 = .ok (.getfield 18, 3) := by decide +kernel
theorem dX4_findHops_20 : decode cX4_findHops 20 = .ok (.iload_n 1, 1) := by decide +kernel
theorem dX4_findHops_21 : decode cX4_findHops 21 = .ok (.bipush 10, 2) := by decide +kernel
theorem dX4_findHops_23 : decode cX4_findHops 23 = .ok (.imul, 1) := by decide +kernel
theorem dX4_findHops_24 : decode cX4_findHops 24 = .ok (.iload_n 2, 1) := by decide +kernel
theorem dX4_findHops_25 : decode cX4_findHops 25 = .ok (.iadd, 1) := by decide +kernel
theorem dX4_findHops_26 : decode cX4_findHops 26 = .ok (.aload_n 0, 1) := by decide +kernel
theorem dX4_findHops_27 : decode cX4_findHops 27 = .ok (.iload_n 1, 1) := by decide +kernel
theorem dX4_findHops_28 : decode cX4_findHops 28 = .ok (.iload_n 2, 1) := by decide +kernel
theorem dX4_findHops_29 : decode cX4_findHops 29 = .ok (.invokevirtual 40, 3) := by decide +kernel
theorem dX4_findHops_32 : decode cX4_findHops 32 = .ok (.iastore, 1) := by decide +kernel
theorem dX4_findHops_33 : decode cX4_findHops 33 = .ok (.iinc 2 1, 3) := by decide +kernel
theorem dX4_findHops_36 : decode cX4_findHops 36 = .ok (.goto (-26), 3) := by decide +kernel
theorem dX4_findHops_39 : decode cX4_findHops 39 = .ok (.iinc 1 1, 3) := by decide +kernel
theorem dX4_findHops_42 : decode cX4_findHops 42 = .ok (.goto (-40), 3) := by decide +kernel
theorem dX4_findHops_45 : decode cX4_findHops 45 = .ok (.return_, 1) := by decide +kernel
theorem dX4_firstHop_0 : decode cX4_firstHop 0 = .ok (.aload_n 0, 1) := by decide +kernel
theorem dX4_firstHop_1 : decode cX4_firstHop 1 = .ok (.iload_n 1, 1) := by decide +kernel
theorem dX4_firstHop_2 : decode cX4_firstHop 2 = .ok (.iload_n 2, 1) := by decide +kernel
theorem dX4_firstHop_3 : decode cX4_firstHop 3 = .ok (.invokevirtual 43, 3) := by decide +kernel
theorem dX4_firstHop_6 : decode cX4_firstHop 6 = .ok (.istore_n 3, 1) := by decide +kernel
theorem dX4_firstHop_7 : decode cX4_firstHop 7 = .ok (.iload_n 1, 1) := by decide +kernel
theorem dX4_firstHop_8 : decode cX4_firstHop 8 = .ok (.iload_n 2, 1) := by decide +kernel
theorem dX4_firstHop_9 : decode cX4_firstHop 9 = .ok (.if_icmp .eq 8, 3) := by decide +kernel
theorem dX4_firstHop_12 : decode cX4_firstHop 12 = .ok (.iload_n 3, 1) := by decide +kernel
theorem dX4_firstHop_13 : decode cX4_firstHop 13 = .ok (.iconst (-1), 1) := by decide +kernel
theorem dX4_firstHop_14 : decode cX4_firstHop 14 = .ok (.if_icmp .ne 5, 3) := by decide +kernel
theorem dX4_firstHop_17 : decode cX4_firstHop 17 = .ok (.iconst (-1), 1) := by decide +kernel
theorem dX4_firstHop_18 : decode cX4_firstHop 18 = .ok (.ireturn, 1) := by decide +kernel
theorem dX4_firstHop_19 : decode cX4_firstHop 19 = .ok (.iconst 0, 1) := by decide +kernel
theorem dX4_firstHop_20 : decode cX4_firstHop 20 = .ok (.istore 4, 2) := by decide +kernel
theorem dX4_firstHop_22 : decode cX4_firstHop 22 = .ok (.iload 4, 2) := by decide +kernel
theorem dX4_firstHop_24 : decode cX4_firstHop 24 = .ok (.bipush 10, 2) := by decide +kernel
theorem dX4_firstHop_26 : decode cX4_firstHop 26 = .ok (.if_icmp .ge 40, 3) := by decide +kernel
theorem dX4_firstHop_29 : decode cX4_firstHop 29 = .ok (.aload_n 0, 1) := by decide +kernel
theorem dX4_firstHop_30 : decode cX4_firstHop 30 = .ok (.iload_n 1, 1) := by decide +kernel
theorem dX4_firstHop_31 : decode cX4_firstHop 31 = .ok (.iload 4, 2) := by decide +kernel
theorem dX4_firstHop_33 : decode cX4_firstHop 33 = .ok (.invokevirtual 32, 3) := by decide +kernel
theorem dX4_firstHop_36 : decode cX4_firstHop 36 = .ok (.istore 5, 2) := by decide +kernel
theorem dX4_firstHop_38 : decode cX4_firstHop 38 = .ok (.iload 5, 2) := by decide +kernel
theorem dX4_firstHop_40 : decode cX4_firstHop 40 = .ok (.ifCond .eq 20, 3) := by decide +kernel
theorem dX4_firstHop_43 : decode cX4_firstHop 43 = .ok (.iload 5, 2) := by decide +kernel
theorem dX4_firstHop_45 : decode cX4_firstHop 45 = .ok (.aload_n 0, 1) := by decide +kernel
theorem dX4_firstHop_46 : decode cX4_firstHop 46 = .ok (.iload 4, 2) := by decide +kernel
theorem dX4_firstHop_48 : decode cX4_firstHop 48 = .ok (.iload_n 2, 1) := by decide +kernel
theorem dX4_firstHop_49 : decode cX4_firstHop 49 = .ok (.invokevirtual 43, 3) := by decide +kernel
theorem dX4_firstHop_52 : decode cX4_firstHop 52 = .ok (.iadd, 1) := by decide +kernel
theorem dX4_firstHop_53 : decode cX4_firstHop 53 = .ok (.iload_n 3, 1) := by decide +kernel
theorem dX4_firstHop_54 : decode cX4_firstHop 54 = .ok (.if_icmp .ne 6, 3) := by decide +kernel
theorem dX4_firstHop_57 : decode cX4_firstHop 57 = .ok (.iload 4, 2) := by decide +kernel
theorem dX4_firstHop_59 : decode cX4_firstHop 59 = .ok (.ireturn, 1) := by decide +kernel
theorem dX4_firstHop_60 : decode cX4_firstHop 60 = .ok (.iinc 4 1, 3) := by decide +kernel
theorem dX4_firstHop_63 : decode cX4_firstHop 63 = .ok (.goto (-41), 3) := by decide +kernel
theorem dX4_firstHop_66 : decode cX4_firstHop 66 = .ok (.iconst (-1), 1) := by decide +kernel
theorem dX4_firstHop_67 : decode cX4_firstHop 67 = .ok (.ireturn, 1) := by decide +kernel
