theorem dX2_init_0 : decode cX2_init 0 = .ok (.aload_n 0, 1) := by decide +kernel
theorem dX2_init_1 : decode cX2_init 1 = .ok (.invokespecial 3, 3) := by decide +kernel
theorem dX2_init_4 : decode cX2_init 4 = .ok (.aload_n 0, 1) := by decide +kernel
theorem dX2_init_5 : decode cX2_init 5 = .ok (.bipush 44, 2) := by decide +kernel
theorem dX2_init_7 : decode cX2_init 7 = .ok (.newarray .int, 2) := by decide +kernel
theorem dX2_init_9 : decode cX2_init 9 = .ok (.putfield 9, 3) := by decide +kernel
theorem dX2_init_12 : decode cX2_init 12 = .ok (.aload_n 0, 1) := by decide +kernel
theorem dX2_init_13 : decode cX2_init 13 = .ok (.bipush 44, 2) := by decide +kernel
theorem dX2_init_15 : decode cX2_init 15 = .ok (.newarray .int, 2) := by decide +kernel
theorem dX2_init_17 : decode cX2_init 17 = .ok (.putfield 15, 3) := by decide +kernel
theorem dX2_init_20 : decode cX2_init 20 = .ok (.aload_n 0, 1) := by decide +kernel
theorem dX2_init_21 : decode cX2_init 21 = .ok (.sipush 440, 3) := by decide +kernel
theorem dX2_init_24 : decode cX2_init 24 = .ok (.newarray .int, 2) := by decide +kernel
theorem dX2_init_26 : decode cX2_init 26 = .ok (.putfield 18, 3) := by decide +kernel
theorem dX2_init_29 : decode cX2_init 29 = .ok (.aload_n 0, 1) := by decide +kernel
theorem dX2_init_30 : decode cX2_init 30 = .ok (.sipush 440, 3) := by decide +kernel
theorem dX2_init_33 : decode cX2_init 33 = .ok (.newarray .int, 2) := by decide +kernel
theorem dX2_init_35 : decode cX2_init 35 = .ok (.putfield 21, 3) := by decide +kernel
theorem dX2_init_38 : decode cX2_init 38 = .ok (.aload_n 0, 1) := by decide +kernel
theorem dX2_init_39 : decode cX2_init 39 = .ok (.getfield 9, 3) := by decide +kernel
theorem dX2_init_42 : decode cX2_init 42 = .ok (.iconst (-1), 1) := by decide +kernel
theorem dX2_init_43 : decode cX2_init 43 = .ok (.invokestatic 24, 3) := by decide +kernel
theorem dX2_init_46 : decode cX2_init 46 = .ok (.aload_n 0, 1) := by decide +kernel
theorem dX2_init_47 : decode cX2_init 47 = .ok (.getfield 18, 3) := by decide +kernel
theorem dX2_init_50 : decode cX2_init 50 = .ok (.iconst (-1), 1) := by decide +kernel
theorem dX2_init_51 : decode cX2_init 51 = .ok (.invokestatic 24, 3) := by decide +kernel
theorem dX2_init_54 : decode cX2_init 54 = .ok (.aload_n 0, 1) := by decide +kernel
theorem dX2_init_55 : decode cX2_init 55 = .ok (.getfield 21, 3) := by decide +kernel
theorem dX2_init_58 : decode cX2_init 58 = .ok (.iconst (-1), 1) := by decide +kernel
theorem dX2_init_59 : decode cX2_init 59 = .ok (.invokestatic 24, 3) := by decide +kernel
theorem dX2_init_62 : decode cX2_init 62 = .ok (.iconst 0, 1) := by decide +kernel
theorem dX2_init_63 : decode cX2_init 63 = .ok (.istore_n 1, 1) := by decide +kernel
theorem dX2_init_64 : decode cX2_init 64 = .ok (.iload_n 1, 1) := by decide +kernel
theorem dX2_init_65 : decode cX2_init 65 = .ok (.iconst 4, 1) := by decide +kernel
theorem dX2_init_66 : decode cX2_init 66 = .ok (.if_icmp .ge 33, 3) := by decide +kernel
theorem dX2_init_69 : decode cX2_init 69 = .ok (.iconst 0, 1) := by decide +kernel
theorem dX2_init_70 : decode cX2_init 70 = .ok (.istore_n 2, 1) := by decide +kernel
theorem dX2_init_71 : decode cX2_init 71 = .ok (.iload_n 2, 1) := by decide +kernel
theorem dX2_init_72 : decode cX2_init 72 = .ok (.bipush 10, 2) := by decide +kernel
theorem dX2_init_74 : decode cX2_init 74 = .ok (.if_icmp .ge 19, 3) := by decide +kernel
theorem dX2_init_77 : decode cX2_init 77 = .ok (.aload_n 0, 1) := by decide +kernel
theorem dX2_init_78 : decode cX2_init 78 = .ok (.iload_n 2, 1) := by decide +kernel
theorem dX2_init_79 : decode cX2_init 79 = .ok (.iload_n 1, 1) := by decide +kernel
theorem dX2_init_80 : decode cX2_init 80 = .ok (.invokestatic 30, 3) := by decide +kernel
theorem dX2_init_83 : decode cX2_init 83 = .ok (.iload_n 2, 1) := by decide +kernel
theorem dX2_init_84 : decode cX2_init 84 = .ok (.invokevirtual 34, 3) := by decide +kernel
theorem dX2_init_87 : decode cX2_init 87 = .ok (.iinc 2 1, 3) := by decide +kernel
theorem dX2_init_90 : decode cX2_init 90 = .ok (.goto (-19), 3) := by decide +kernel
theorem dX2_init_93 : decode cX2_init 93 = .ok (.iinc 1 1, 3) := by decide +kernel
theorem dX2_init_96 : decode cX2_init 96 = .ok (.goto (-32), 3) := by decide +kernel
theorem dX2_init_99 : decode cX2_init 99 = .ok (.return_, 1) := by decide +kernel
theorem dX2_setRoot_0 : decode cX2_setRoot 0 = .ok (.iload_n 1, 1) := by decide +kernel
theorem dX2_setRoot_1 : decode cX2_setRoot 1 = .ok (.invokestatic 38, 3) := by decide +kernel
theorem dX2_setRoot_4 : decode cX2_setRoot 4 = .ok (.ifCond .eq 10, 3) := by decide +kernel
theorem dX2_setRoot_7 : decode cX2_setRoot 7 = .ok (.aload_n 0, 1) := by decide +kernel
theorem dX2_setRoot_8 : decode cX2_setRoot 8 = .ok (.getfield 9, 3) := by decide +kernel
theorem dX2_setRoot_11 : decode cX2_setRoot 11 = .ok (.iload_n 1, 1) := by decide +kernel
theorem dX2_setRoot_12 : decode cX2_setRoot 12 = .ok (.iload_n 2, 1) := by decide +kernel
theorem dX2_setRoot_13 : decode cX2_setRoot 13 = .ok (.iastore, 1) := by decide +kernel
theorem dX2_setRoot_14 : decode cX2_setRoot 14 = .ok (.return_, 1) := by decide +kernel
theorem dX2_rootOf_0 : decode cX2_rootOf 0 = .ok (.iload_n 1, 1) := by decide +kernel
theorem dX2_rootOf_1 : decode cX2_rootOf 1 = .ok (.invokestatic 38, 3) := by decide +kernel
theorem dX2_rootOf_4 : decode cX2_rootOf 4 = .ok (.ifCond .eq 12, 3) := by decide +kernel
theorem dX2_rootOf_7 : decode cX2_rootOf 7 = .ok (.aload_n 0, 1) := by decide +kernel
theorem dX2_rootOf_8 : decode cX2_rootOf 8 = .ok (.getfield 9, 3) := by decide +kernel
theorem dX2_rootOf_11 : decode cX2_rootOf 11 = .ok (.iload_n 1, 1) := by decide +kernel
theorem dX2_rootOf_12 : decode cX2_rootOf 12 = .ok (.iaload, 1) := by decide +kernel
theorem dX2_rootOf_13 : decode cX2_rootOf 13 = .ok (.goto 4, 3) := by decide +kernel
theorem dX2_rootOf_16 : decode cX2_rootOf 16 = .ok (.iconst (-1), 1) := by decide +kernel
theorem dX2_rootOf_17 : decode cX2_rootOf 17 = .ok (.ireturn, 1) := by decide +kernel
theorem dX2_wantingOf_0 : decode cX2_wantingOf 0 = .ok (.iload_n 1, 1) := by decide +kernel
theorem dX2_wantingOf_1 : decode cX2_wantingOf 1 = .ok (.invokestatic 38, 3) := by decide +kernel
theorem dX2_wantingOf_4 : decode cX2_wantingOf 4 = .ok (.ifCond .eq 12, 3) := by decide +kernel
theorem dX2_wantingOf_7 : decode cX2_wantingOf 7 = .ok (.aload_n 0, 1) := by decide +kernel
theorem dX2_wantingOf_8 : decode cX2_wantingOf 8 = .ok (.getfield 15, 3) := by decide +kernel
theorem dX2_wantingOf_11 : decode cX2_wantingOf 11 = .ok (.iload_n 1, 1) := by decide +kernel
theorem dX2_wantingOf_12 : decode cX2_wantingOf 12 = .ok (.iaload, 1) := by decide +kernel
theorem dX2_wantingOf_13 : decode cX2_wantingOf 13 = .ok (.goto 4, 3) := by decide +kernel
theorem dX2_wantingOf_16 : decode cX2_wantingOf 16 = .ok (.iconst 0, 1) := by decide +kernel
theorem dX2_wantingOf_17 : decode cX2_wantingOf 17 = .ok (.ireturn, 1) := by decide +kernel
theorem dX2_want_0 : decode cX2_want 0 = .ok (.iload_n 1, 1) := by decide +kernel
theorem dX2_want_1 : decode cX2_want 1 = .ok (.invokestatic 38, 3) := by decide +kernel
theorem dX2_want_4 : decode cX2_want 4 = .ok (.ifCond .eq 30, 3) := by decide +kernel
theorem dX2_want_7 : decode cX2_want 7 = .ok (.iload_n 2, 1) := by decide +kernel
theorem dX2_want_8 : decode cX2_want 8 = .ok (.invokestatic 42, 3) := by decide +kernel
theorem dX2_want_11 : decode cX2_want 11 = .ok (.ifCond .eq 23, 3) := by decide +kernel
theorem dX2_want_14 : decode cX2_want 14 = .ok (.aload_n 0, 1) := by decide +kernel
theorem dX2_want_15 : decode cX2_want 15 = .ok (.getfield 15, 3) := by decide +kernel
theorem dX2_want_18 : decode cX2_want 18 = .ok (.iload_n 1, 1) := by decide +kernel
theorem dX2_want_19 : decode cX2_want 19 = .ok (.dup2, 1) := by decide +kernel
theorem dX2_want_20 : decode cX2_want 20 = .ok (.iaload, 1) := by decide +kernel
theorem dX2_want_21 : decode cX2_want 21 = .ok (.iload_n 2, 1) := by decide +kernel
theorem dX2_want_22 : decode cX2_want 22 = .ok (.invokestatic 45, 3) := by decide +kernel
theorem dX2_want_25 : decode cX2_want 25 = .ok (.ior, 1) := by decide +kernel
theorem dX2_want_26 : decode cX2_want 26 = .ok (.iastore, 1) := by decide +kernel
theorem dX2_want_27 : decode cX2_want 27 = .ok (.aload_n 0, 1) := by decide +kernel
theorem dX2_want_28 : decode cX2_want 28 = .ok (.iload_n 1, 1) := by decide +kernel
theorem dX2_want_29 : decode cX2_want 29 = .ok (.iload_n 2, 1) := by decide +kernel
theorem dX2_want_30 : decode cX2_want 30 = .ok (.aload_n 3, 1) := by decide +kernel
theorem dX2_want_31 : decode cX2_want 31 = .ok (.invokevirtual 49, 3) := by decide +kernel
theorem dX2_want_34 : decode cX2_want 34 = .ok (.return_, 1) := by decide +kernel
theorem dX2_unwant_0 : decode cX2_unwant 0 = .ok (.iload_n 1, 1) := by decide +kernel
theorem dX2_unwant_1 : decode cX2_unwant 1 = .ok (.invokestatic 38, 3) := by decide +kernel
theorem dX2_unwant_4 : decode cX2_unwant 4 = .ok (.ifCond .eq 32, 3) := by decide +kernel
theorem dX2_unwant_7 : decode cX2_unwant 7 = .ok (.iload_n 2, 1) := by decide +kernel
theorem dX2_unwant_8 : decode cX2_unwant 8 = .ok (.invokestatic 42, 3) := by decide +kernel
theorem dX2_unwant_11 : decode cX2_unwant 11 = .ok (.ifCond .eq 25, 3) := by decide +kernel
theorem dX2_unwant_14 : decode cX2_unwant 14 = .ok (.aload_n 0, 1) := by decide +kernel
theorem dX2_unwant_15 : decode cX2_unwant 15 = .ok (.getfield 15, 3) := by decide +kernel
theorem dX2_unwant_18 : decode cX2_unwant 18 = .ok (.iload_n 1, 1) := by decide +kernel
theorem dX2_unwant_19 : decode cX2_unwant 19 = .ok (.dup2, 1) := by decide +kernel
theorem dX2_unwant_20 : decode cX2_unwant 20 = .ok (.iaload, 1) := by decide +kernel
theorem dX2_unwant_21 : decode cX2_unwant 21 = .ok (.iload_n 2, 1) := by decide +kernel
theorem dX2_unwant_22 : decode cX2_unwant 22 = .ok (.invokestatic 45, 3) := by decide +kernel
theorem dX2_unwant_25 : decode cX2_unwant 25 = .ok (.iconst (-1), 1) := by decide +kernel
theorem dX2_unwant_26 : decode cX2_unwant 26 = .ok (.ixor, 1) := by decide +kernel
theorem dX2_unwant_27 : decode cX2_unwant 27 = .ok (.iand, 1) := by decide +kernel
theorem dX2_unwant_28 : decode cX2_unwant 28 = .ok (.iastore, 1) := by decide +kernel
theorem dX2_unwant_29 : decode cX2_unwant 29 = .ok (.aload_n 0, 1) := by decide +kernel
theorem dX2_unwant_30 : decode cX2_unwant 30 = .ok (.iload_n 1, 1) := by decide +kernel
theorem dX2_unwant_31 : decode cX2_unwant 31 = .ok (.iload_n 2, 1) := by decide +kernel
theorem dX2_unwant_32 : decode cX2_unwant 32 = .ok (.iload_n 3, 1) := by decide +kernel
theorem dX2_unwant_33 : decode cX2_unwant 33 = .ok (.invokevirtual 53, 3) := by decide +kernel
theorem dX2_unwant_36 : decode cX2_unwant 36 = .ok (.return_, 1) := by decide +kernel
theorem dX2_branchesFrom_0 : decode cX2_branchesFrom 0 = .ok (.iload_n 1, 1) := by decide +kernel
theorem dX2_branchesFrom_1 : decode cX2_branchesFrom 1 = .ok (.invokestatic 38, 3) := by decide +kernel
theorem dX2_branchesFrom_4 : decode cX2_branchesFrom 4 = .ok (.ifCond .eq 10, 3) := by decide +kernel
theorem dX2_branchesFrom_7 : decode cX2_branchesFrom 7 = .ok (.iload_n 2, 1) := by decide +kernel
theorem dX2_branchesFrom_8 : decode cX2_branchesFrom 8 = .ok (.invokestatic 42, 3) := by decide +kernel
theorem dX2_branchesFrom_11 : decode cX2_branchesFrom 11 = .ok (.ifCond .ne 5, 3) := by decide +kernel
theorem dX2_branchesFrom_14 : decode cX2_branchesFrom 14 = .ok (.iconst 0, 1) := by decide +kernel
theorem dX2_branchesFrom_15 : decode cX2_branchesFrom 15 = .ok (.ireturn, 1) := by decide +kernel
theorem dX2_branchesFrom_16 : decode cX2_branchesFrom 16 = .ok (.iconst 0, 1) := by decide +kernel
theorem dX2_branchesFrom_17 : decode cX2_branchesFrom 17 = .ok (.istore_n 3, 1) := by decide +kernel
theorem dX2_branchesFrom_18 : decode cX2_branchesFrom 18 = .ok (.iconst 0, 1) := by decide +kernel
theorem dX2_branchesFrom_19 : decode cX2_branchesFrom 19 = .ok (.istore 4, 2) := by decide +kernel
theorem dX2_branchesFrom_21 : decode cX2_branchesFrom 21 = .ok (.iload 4, 2) := by decide +kernel
theorem dX2_branchesFrom_23 : decode cX2_branchesFrom 23 = .ok (.bipush 10, 2) := by decide +kernel
theorem dX2_branchesFrom_25 : decode cX2_branchesFrom 25 = .ok (.if_icmp .ge 33, 3) := by decide +kernel
theorem dX2_branchesFrom_28 : decode cX2_branchesFrom 28 = .ok (.aload_n 0, 1) := by decide +kernel
theorem dX2_branchesFrom_29 : decode cX2_branchesFrom 29 = .ok (.getfield 18, 3) := by decide +kernel
theorem dX2_branchesFrom_32 : decode cX2_branchesFrom 32 = .ok (.iload_n 1, 1) := by decide +kernel
theorem dX2_branchesFrom_33 : decode cX2_branchesFrom 33 = .ok (.bipush 10, 2) := by decide +kernel
theorem dX2_branchesFrom_35 : decode cX2_branchesFrom 35 = .ok (.imul, 1) := by decide +kernel
theorem dX2_branchesFrom_36 : decode cX2_branchesFrom 36 = .ok (.iload 4, 2) := by decide +kernel
theorem dX2_branchesFrom_38 : decode cX2_branchesFrom 38 = .ok (.iadd, 1) := by decide +kernel
theorem dX2_branchesFrom_39 : decode cX2_branchesFrom 39 = .ok (.iaload, 1) := by decide +kernel
theorem dX2_branchesFrom_40 : decode cX2_branchesFrom 40 = .ok (.iload_n 2, 1) := by decide +kernel
theorem dX2_branchesFrom_41 : decode cX2_branchesFrom 41 = .ok (.if_icmp .ne 11, 3) := by decide +kernel
theorem dX2_branchesFrom_44 : decode cX2_branchesFrom 44 = .ok (.iload_n 3, 1) := by decide +kernel
theorem dX2_branchesFrom_45 : decode cX2_branchesFrom 45 = .ok (.iload 4, 2) := by decide +kernel
theorem dX2_branchesFrom_47 : decode cX2_branchesFrom 47 = .ok (.invokestatic 45, 3) := by decide +kernel
theorem dX2_branchesFrom_50 : decode cX2_branchesFrom 50 = .ok (.ior, 1) := by decide +kernel
theorem dX2_branchesFrom_51 : decode cX2_branchesFrom 51 = .ok (.istore_n 3, 1) := by decide +kernel
theorem dX2_branchesFrom_52 : decode cX2_branchesFrom 52 = .ok (.iinc 4 1, 3) := by decide +kernel
theorem dX2_branchesFrom_55 : decode cX2_branchesFrom 55 = .ok (.goto (-34), 3) := by decide +kernel
theorem dX2_branchesFrom_58 : decode cX2_branchesFrom 58 = .ok (.iload_n 3, 1) := by decide +kernel
theorem dX2_branchesFrom_59 : decode cX2_branchesFrom 59 = .ok (.ireturn, 1) := by decide +kernel
theorem dX2_leavingBranches_0 : decode cX2_leavingBranches 0 = .ok (.iconst 0, 1) := by decide +kernel
theorem dX2_leavingBranches_1 : decode cX2_leavingBranches 1 = .ok (.istore_n 1, 1) := by decide +kernel
theorem dX2_leavingBranches_2 : decode cX2_leavingBranches 2 = .ok (.iconst 0, 1) := by decide +kernel
theorem dX2_leavingBranches_3 : decode cX2_leavingBranches 3 = .ok (.istore_n 2, 1) := by decide +kernel
theorem dX2_leavingBranches_4 : decode cX2_leavingBranches 4 = .ok (.iload_n 2, 1) := by decide +kernel
theorem dX2_leavingBranches_5 : decode cX2_leavingBranches 5 = .ok (.sipush 440, 3) := by decide +kernel
theorem dX2_leavingBranches_8 : decode cX2_leavingBranches 8 = .ok (.if_icmp .ge 22, 3) := by decide +kernel
theorem dX2_leavingBranches_11 : decode cX2_leavingBranches 11 = .ok (.aload_n 0, 1) := by decide +kernel
theorem dX2_leavingBranches_12 : decode cX2_leavingBranches 12 = .ok (.getfield 21, 3) := by decide +kernel
theorem dX2_leavingBranches_15 : decode cX2_leavingBranches 15 = .ok (.iload_n 2, 1) := by decide +kernel
theorem dX2_leavingBranches_16 : decode cX2_leavingBranches 16 = .ok (.iaload, 1) := by decide +kernel
theorem dX2_leavingBranches_17 : decode cX2_leavingBranches 17 = .ok (.iconst (-1), 1) := by decide +kernel
theorem dX2_leavingBranches_18 : decode cX2_leavingBranches 18 = .ok (.if_icmp .eq 6, 3) := by decide +kernel
theorem dX2_leavingBranches_21 : decode cX2_leavingBranches 21 = .ok (.iinc 1 1, 3) := by decide +kernel
theorem dX2_leavingBranches_24 : decode cX2_leavingBranches 24 = .ok (.iinc 2 1, 3) := by decide +kernel
theorem dX2_leavingBranches_27 : decode cX2_leavingBranches 27 = .ok (.goto (-23), 3) := by decide +kernel
theorem dX2_leavingBranches_30 : decode cX2_leavingBranches 30 = .ok (.iload_n 1, 1) := by decide +kernel
theorem dX2_leavingBranches_31 : decode cX2_leavingBranches 31 = .ok (.ireturn, 1) := by decide +kernel
theorem dX2_buildAnew_0 : decode cX2_buildAnew 0 = .ok (.aload_n 0, 1) := by decide +kernel
theorem dX2_buildAnew_1 : decode cX2_buildAnew 1 = .ok (.getfield 18, 3) := by decide +kernel
theorem dX2_buildAnew_4 : decode cX2_buildAnew 4 = .ok (.iconst (-1), 1) := by decide +kernel
theorem dX2_buildAnew_5 : decode cX2_buildAnew 5 = .ok (.invokestatic 24, 3) := by decide +kernel
theorem dX2_buildAnew_8 : decode cX2_buildAnew 8 = .ok (.aload_n 0, 1) := by decide +kernel
theorem dX2_buildAnew_9 : decode cX2_buildAnew 9 = .ok (.getfield 21, 3) := by decide +kernel
theorem dX2_buildAnew_12 : decode cX2_buildAnew 12 = .ok (.iconst (-1), 1) := by decide +kernel
theorem dX2_buildAnew_13 : decode cX2_buildAnew 13 = .ok (.invokestatic 24, 3) := by decide +kernel
theorem dX2_buildAnew_16 : decode cX2_buildAnew 16 = .ok (.iconst 0, 1) := by decide +kernel
theorem dX2_buildAnew_17 : decode cX2_buildAnew 17 = .ok (.istore_n 2, 1) := by decide +kernel
theorem dX2_buildAnew_18 : decode cX2_buildAnew 18 = .ok (.iload_n 2, 1) := by decide +kernel
theorem dX2_buildAnew_19 : decode cX2_buildAnew 19 = .ok (.bipush 44, 2) := by decide +kernel
theorem dX2_buildAnew_21 : decode cX2_buildAnew 21 = .ok (.if_icmp .ge 43, 3) := by decide +kernel
theorem dX2_buildAnew_24 : decode cX2_buildAnew 24 = .ok (.iconst 0, 1) := by decide +kernel
theorem dX2_buildAnew_25 : decode cX2_buildAnew 25 = .ok (.istore_n 3, 1) := by decide +kernel
theorem dX2_buildAnew_26 : decode cX2_buildAnew 26 = .ok (.iload_n 3, 1) := by decide +kernel
theorem dX2_buildAnew_27 : decode cX2_buildAnew 27 = .ok (.bipush 10, 2) := by decide +kernel
theorem dX2_buildAnew_29 : decode cX2_buildAnew 29 = .ok (.if_icmp .ge 29, 3) := by decide +kernel
theorem dX2_buildAnew_32 : decode cX2_buildAnew 32 = .ok (.aload_n 0, 1) := by decide +kernel
theorem dX2_buildAnew_33 : decode cX2_buildAnew 33 = .ok (.getfield 15, 3) := by decide +kernel
theorem dX2_buildAnew_36 : decode cX2_buildAnew 36 = .ok (.iload_n 2, 1) := by decide +kernel
theorem dX2_buildAnew_37 : decode cX2_buildAnew 37 = .ok (.iaload, 1) := by decide +kernel
theorem dX2_buildAnew_38 : decode cX2_buildAnew 38 = .ok (.iload_n 3, 1) := by decide +kernel
theorem dX2_buildAnew_39 : decode cX2_buildAnew 39 = .ok (.invokestatic 57, 3) := by decide +kernel
theorem dX2_buildAnew_42 : decode cX2_buildAnew 42 = .ok (.ifCond .eq 10, 3) := by decide +kernel
theorem dX2_buildAnew_45 : decode cX2_buildAnew 45 = .ok (.aload_n 0, 1) := by decide +kernel
theorem dX2_buildAnew_46 : decode cX2_buildAnew 46 = .ok (.iload_n 2, 1) := by decide +kernel
theorem dX2_buildAnew_47 : decode cX2_buildAnew 47 = .ok (.iload_n 3, 1) := by decide +kernel
theorem dX2_buildAnew_48 : decode cX2_buildAnew 48 = .ok (.aload_n 1, 1) := by decide +kernel
theorem dX2_buildAnew_49 : decode cX2_buildAnew 49 = .ok (.invokevirtual 49, 3) := by decide +kernel
theorem dX2_buildAnew_52 : decode cX2_buildAnew 52 = .ok (.iinc 3 1, 3) := by decide +kernel
theorem dX2_buildAnew_55 : decode cX2_buildAnew 55 = .ok (.goto (-29), 3) := by decide +kernel
theorem dX2_buildAnew_58 : decode cX2_buildAnew 58 = .ok (.iinc 2 1, 3) := by decide +kernel
theorem dX2_buildAnew_61 : decode cX2_buildAnew 61 = .ok (.goto (-43), 3) := by decide +kernel
theorem dX2_buildAnew_64 : decode cX2_buildAnew 64 = .ok (.return_, 1) := by decide +kernel
theorem dX2_removeDue_0 : decode cX2_removeDue 0 = .ok (.iconst 0, 1) := by decide +kernel
theorem dX2_removeDue_1 : decode cX2_removeDue 1 = .ok (.istore_n 2, 1) := by decide +kernel
theorem dX2_removeDue_2 : decode cX2_removeDue 2 = .ok (.iconst 0, 1) := by decide +kernel
theorem dX2_removeDue_3 : decode cX2_removeDue 3 = .ok (.istore_n 3, 1) := by decide +kernel
theorem dX2_removeDue_4 : decode cX2_removeDue 4 = .ok (.iload_n 3, 1) := by decide +kernel
theorem dX2_removeDue_5 : decode cX2_removeDue 5 = .ok (.sipush 440, 3) := by decide +kernel
theorem dX2_removeDue_8 : decode cX2_removeDue 8 = .ok (.if_icmp .ge 35, 3) := by decide +kernel
theorem dX2_removeDue_11 : decode cX2_removeDue 11 = .ok (.aload_n 0, 1) := by decide +kernel
theorem dX2_removeDue_12 : decode cX2_removeDue 12 = .ok (.getfield 21, 3) := by decide +kernel
theorem dX2_removeDue_15 : decode cX2_removeDue 15 = .ok (.iload_n 3, 1) := by decide +kernel
theorem dX2_removeDue_16 : decode cX2_removeDue 16 = .ok (.iaload, 1) := by decide +kernel
theorem dX2_removeDue_17 : decode cX2_removeDue 17 = .ok (.iload_n 1, 1) := by decide +kernel
theorem dX2_removeDue_18 : decode cX2_removeDue 18 = .ok (.if_icmp .ne 19, 3) := by decide +kernel
theorem dX2_removeDue_21 : decode cX2_removeDue 21 = .ok (.aload_n 0, 1) := by decide +kernel
theorem dX2_removeDue_22 : decode cX2_removeDue 22 = .ok (.iload_n 3, 1) := by decide +kernel
theorem dX2_removeDue_23 : decode cX2_removeDue 23 = .ok (.bipush 10, 2) := by decide +kernel
theorem dX2_removeDue_25 : decode cX2_removeDue 25 = .ok (.idiv, 1) := by decide +kernel
theorem dX2_removeDue_26 : decode cX2_removeDue 26 = .ok (.iload_n 3, 1) := by decide +kernel
theorem dX2_removeDue_27 : decode cX2_removeDue 27 = .ok (.bipush 10, 2) := by decide +kernel
theorem dX2_removeDue_29 : decode cX2_removeDue 29 = .ok (.irem, 1) := by decide +kernel
theorem dX2_removeDue_30 : decode cX2_removeDue 30 = .ok (.iload_n 1, 1) := by decide +kernel
theorem dX2_removeDue_31 : decode cX2_removeDue 31 = .ok (.invokevirtual 61, 3) := by decide +kernel
theorem dX2_removeDue_34 : decode cX2_removeDue 34 = .ok (.iinc 2 1, 3) := by decide +kernel
theorem dX2_removeDue_37 : decode cX2_removeDue 37 = .ok (.iinc 3 1, 3) := by decide +kernel
theorem dX2_removeDue_40 : decode cX2_removeDue 40 = .ok (.goto (-36), 3) := by decide +kernel
theorem dX2_removeDue_43 : decode cX2_removeDue 43 = .ok (.iload_n 2, 1) := by decide +kernel
theorem dX2_removeDue_44 : decode cX2_removeDue 44 = .ok (.ireturn, 1) := by decide +kernel
theorem dX2_remove_0 : decode cX2_remove 0 = .ok (.aload_n 0, 1) := by decide +kernel
theorem dX2_remove_1 : decode cX2_remove 1 = .ok (.iload_n 1, 1) := by decide +kernel
theorem dX2_remove_2 : decode cX2_remove 2 = .ok (.iload_n 2, 1) := by decide +kernel
theorem dX2_remove_3 : decode cX2_remove 3 = .ok (.invokevirtual 64, 3) := by decide +kernel
theorem dX2_remove_6 : decode cX2_remove 6 = .ok (.istore 4, 2) := by decide +kernel
theorem dX2_remove_8 : decode cX2_remove 8 = .ok (.aload_n 0, 1) := by decide +kernel
theorem dX2_remove_9 : decode cX2_remove 9 = .ok (.getfield 18, 3) := by decide +kernel
theorem dX2_remove_12 : decode cX2_remove 12 = .ok (.iload_n 1, 1) := by decide +kernel
theorem dX2_remove_13 : decode cX2_remove 13 = .ok (.bipush 10, 2) := by decide +kernel
theorem dX2_remove_15 : decode cX2_remove 15 = .ok (.imul, 1) := by decide +kernel
theorem dX2_remove_16 : decode cX2_remove 16 = .ok (.iload_n 2, 1) := by decide +kernel
theorem dX2_remove_17 : decode cX2_remove 17 = .ok (.iadd, 1) := by decide +kernel
theorem dX2_remove_18 : decode cX2_remove 18 = .ok (.iconst (-1), 1) := by decide +kernel
theorem dX2_remove_19 : decode cX2_remove 19 = .ok (.iastore, 1) := by decide +kernel
theorem dX2_remove_20 : decode cX2_remove 20 = .ok (.aload_n 0, 1) := by decide +kernel
theorem dX2_remove_21 : decode cX2_remove 21 = .ok (.getfield 21, 3) := by decide +kernel
theorem dX2_remove_24 : decode cX2_remove 24 = .ok (.iload_n 1, 1) := by decide +kernel
theorem dX2_remove_25 : decode cX2_remove 25 = .ok (.bipush 10, 2) := by decide +kernel
theorem dX2_remove_27 : decode cX2_remove 27 = .ok (.imul, 1) := by decide +kernel
theorem dX2_remove_28 : decode cX2_remove 28 = .ok (.iload_n 2, 1) := by decide +kernel
theorem dX2_remove_29 : decode cX2_remove 29 = .ok (.iadd, 1) := by decide +kernel
theorem dX2_remove_30 : decode cX2_remove 30 = .ok (.iconst (-1), 1) := by decide +kernel
theorem dX2_remove_31 : decode cX2_remove 31 = .ok (.iastore, 1) := by decide +kernel
theorem dX2_remove_32 : decode cX2_remove 32 = .ok (.aload_n 0, 1) := by decide +kernel
theorem dX2_remove_33 : decode cX2_remove 33 = .ok (.iload_n 1, 1) := by decide +kernel
theorem dX2_remove_34 : decode cX2_remove 34 = .ok (.iload 4, 2) := by decide +kernel
theorem dX2_remove_36 : decode cX2_remove 36 = .ok (.iload_n 3, 1) := by decide +kernel
theorem dX2_remove_37 : decode cX2_remove 37 = .ok (.invokevirtual 53, 3) := by decide +kernel
theorem dX2_remove_40 : decode cX2_remove 40 = .ok (.return_, 1) := by decide +kernel
theorem dX2_parentOf_0 : decode cX2_parentOf 0 = .ok (.iload_n 1, 1) := by decide +kernel
theorem dX2_parentOf_1 : decode cX2_parentOf 1 = .ok (.invokestatic 38, 3) := by decide +kernel
theorem dX2_parentOf_4 : decode cX2_parentOf 4 = .ok (.ifCond .eq 24, 3) := by decide +kernel
theorem dX2_parentOf_7 : decode cX2_parentOf 7 = .ok (.iload_n 2, 1) := by decide +kernel
theorem dX2_parentOf_8 : decode cX2_parentOf 8 = .ok (.invokestatic 42, 3) := by decide +kernel
theorem dX2_parentOf_11 : decode cX2_parentOf 11 = .ok (.ifCond .eq 17, 3) := by decide +kernel
theorem dX2_parentOf_14 : decode cX2_parentOf 14 = .ok (.aload_n 0, 1) := by decide +kernel
theorem dX2_parentOf_15 : decode cX2_parentOf 15 = .ok (.getfield 18, 3) := by decide +kernel
theorem dX2_parentOf_18 : decode cX2_parentOf 18 = .ok (.iload_n 1, 1) := by decide +kernel
theorem dX2_parentOf_19 : decode cX2_parentOf 19 = .ok (.bipush 10, 2) := by decide +kernel
theorem dX2_parentOf_21 : decode cX2_parentOf 21 = .ok (.imul, 1) := by decide +kernel
theorem dX2_parentOf_22 : decode cX2_parentOf 22 = .ok (.iload_n 2, 1) := by decide +kernel
theorem dX2_parentOf_23 : decode cX2_parentOf 23 = .ok (.iadd, 1) := by decide +kernel
theorem dX2_parentOf_24 : decode cX2_parentOf 24 = .ok (.iaload, 1) := by decide +kernel
theorem dX2_parentOf_25 : decode cX2_parentOf 25 = .ok (.goto 4, 3) := by decide +kernel
theorem dX2_parentOf_28 : decode cX2_parentOf 28 = .ok (.iconst (-1), 1) := by decide +kernel
theorem dX2_parentOf_29 : decode cX2_parentOf 29 = .ok (.ireturn, 1) := by decide +kernel
theorem dX2_graft_0 : decode cX2_graft 0 = .ok (.aload_n 0, 1) := by decide +kernel
theorem dX2_graft_1 : decode cX2_graft 1 = .ok (.iload_n 1, 1) := by decide +kernel
theorem dX2_graft_2 : decode cX2_graft 2 = .ok (.invokevirtual 67, 3) := by decide +kernel
theorem dX2_graft_5 : decode cX2_graft 5 = .ok (.istore 4, 2) := by decide +kernel
theorem dX2_graft_7 : decode cX2_graft 7 = .ok (.iload_n 2, 1) := by decide +kernel
theorem dX2_graft_8 : decode cX2_graft 8 = .ok (.istore 5, 2) := by decide +kernel
theorem dX2_graft_10 : decode cX2_graft 10 = .ok (.iconst 0, 1) := by decide +kernel
theorem dX2_graft_11 : decode cX2_graft 11 = .ok (.istore 6, 2) := by decide +kernel
theorem dX2_graft_13 : decode cX2_graft 13 = .ok (.iload 6, 2) := by decide +kernel
theorem dX2_graft_15 : decode cX2_graft 15 = .ok (.bipush 10, 2) := by decide +kernel
theorem dX2_graft_17 : decode cX2_graft 17 = .ok (.if_icmp .ge 85, 3) := by decide +kernel
theorem dX2_graft_20 : decode cX2_graft 20 = .ok (.iload_n 1, 1) := by decide +kernel
theorem dX2_graft_21 : decode cX2_graft 21 = .ok (.invokestatic 38, 3) := by decide +kernel
theorem dX2_graft_24 : decode cX2_graft 24 = .ok (.ifCond .eq 18, 3) := by decide +kernel
theorem dX2_graft_27 : decode cX2_graft 27 = .ok (.iload 5, 2) := by decide +kernel
theorem dX2_graft_29 : decode cX2_graft 29 = .ok (.invokestatic 42, 3) := by decide +kernel
theorem dX2_graft_32 : decode cX2_graft 32 = .ok (.ifCond .eq 10, 3) := by decide +kernel
theorem dX2_graft_35 : decode cX2_graft 35 = .ok (.iload 5, 2) := by decide +kernel
theorem dX2_graft_37 : decode cX2_graft 37 = .ok (.iload 4, 2) := by decide +kernel
theorem dX2_graft_39 : decode cX2_graft 39 = .ok (.if_icmp .ne 4, 3) := by decide +kernel
theorem dX2_graft_42 : decode cX2_graft 42 = .ok (.return_, 1) := by decide +kernel
theorem dX2_graft_43 : decode cX2_graft 43 = .ok (.aload_n 0, 1) := by decide +kernel
theorem dX2_graft_44 : decode cX2_graft 44 = .ok (.iload_n 1, 1) := by decide +kernel
theorem dX2_graft_45 : decode cX2_graft 45 = .ok (.iload 5, 2) := by decide +kernel
theorem dX2_graft_47 : decode cX2_graft 47 = .ok (.invokevirtual 64, 3) := by decide +kernel
theorem dX2_graft_50 : decode cX2_graft 50 = .ok (.iconst (-1), 1) := by decide +kernel
theorem dX2_graft_51 : decode cX2_graft 51 = .ok (.if_icmp .eq 17, 3) := by decide +kernel
theorem dX2_graft_54 : decode cX2_graft 54 = .ok (.aload_n 0, 1) := by decide +kernel
theorem dX2_graft_55 : decode cX2_graft 55 = .ok (.getfield 21, 3) := by decide +kernel
theorem dX2_graft_58 : decode cX2_graft 58 = .ok (.iload_n 1, 1) := by decide +kernel
theorem dX2_graft_59 : decode cX2_graft 59 = .ok (.bipush 10, 2) := by decide +kernel
theorem dX2_graft_61 : decode cX2_graft 61 = .ok (.imul, 1) := by decide +kernel
theorem dX2_graft_62 : decode cX2_graft 62 = .ok (.iload 5, 2) := by decide +kernel
theorem dX2_graft_64 : decode cX2_graft 64 = .ok (.iadd, 1) := by decide +kernel
theorem dX2_graft_65 : decode cX2_graft 65 = .ok (.iconst (-1), 1) := by decide +kernel
theorem dX2_graft_66 : decode cX2_graft 66 = .ok (.iastore, 1) := by decide +kernel
theorem dX2_graft_67 : decode cX2_graft 67 = .ok (.return_, 1) := by decide +kernel
theorem dX2_graft_68 : decode cX2_graft 68 = .ok (.aload_n 3, 1) := by decide +kernel
theorem dX2_graft_69 : decode cX2_graft 69 = .ok (.iload 5, 2) := by decide +kernel
theorem dX2_graft_71 : decode cX2_graft 71 = .ok (.iload 4, 2) := by decide +kernel
theorem dX2_graft_73 : decode cX2_graft 73 = .ok (.invokevirtual 70, 3) := by decide +kernel
theorem dX2_graft_76 : decode cX2_graft 76 = .ok (.istore 7, 2) := by decide +kernel
theorem dX2_graft_78 : decode cX2_graft 78 = .ok (.aload_n 0, 1) := by decide +kernel
theorem dX2_graft_79 : decode cX2_graft 79 = .ok (.getfield 18, 3) := by decide +kernel
theorem dX2_graft_82 : decode cX2_graft 82 = .ok (.iload_n 1, 1) := by decide +kernel
theorem dX2_graft_83 : decode cX2_graft 83 = .ok (.bipush 10, 2) := by decide +kernel
theorem dX2_graft_85 : decode cX2_graft 85 = .ok (.imul, 1) := by decide +kernel
theorem dX2_graft_86 : decode cX2_graft 86 = .ok (.iload 5, 2) := by decide +kernel
theorem dX2_graft_88 : decode cX2_graft 88 = .ok (.iadd, 1) := by decide +kernel
theorem dX2_graft_89 : decode cX2_graft 89 = .ok (.iload 7, 2) := by decide +kernel
theorem dX2_graft_91 : decode cX2_graft 91 = .ok (.iastore, 1) := by decide +kernel
theorem dX2_graft_92 : decode cX2_graft 92 = .ok (.iload 7, 2) := by decide +kernel
theorem dX2_graft_94 : decode cX2_graft 94 = .ok (.istore 5, 2) := by decide +kernel
theorem dX2_graft_96 : decode cX2_graft 96 = .ok (.iinc 6 1, 3) := by decide +kernel
theorem dX2_graft_99 : decode cX2_graft 99 = .ok (.goto (-86), 3) := by decide +kernel
theorem dX2_graft_102 : decode cX2_graft 102 = .ok (.return_, 1) := by decide +kernel
theorem dX2_letLeave_0 : decode cX2_letLeave 0 = .ok (.aload_n 0, 1) := by decide +kernel
theorem dX2_letLeave_1 : decode cX2_letLeave 1 = .ok (.iload_n 1, 1) := by decide +kernel
theorem dX2_letLeave_2 : decode cX2_letLeave 2 = .ok (.iload_n 2, 1) := by decide +kernel
theorem dX2_letLeave_3 : decode cX2_letLeave 3 = .ok (.invokevirtual 64, 3) := by decide +kernel
theorem dX2_letLeave_6 : decode cX2_letLeave 6 = .ok (.iconst (-1), 1) := by decide +kernel
theorem dX2_letLeave_7 : decode cX2_letLeave 7 = .ok (.if_icmp .eq 12, 3) := by decide +kernel
theorem dX2_letLeave_10 : decode cX2_letLeave 10 = .ok (.aload_n 0, 1) := by decide +kernel
theorem dX2_letLeave_11 : decode cX2_letLeave 11 = .ok (.iload_n 1, 1) := by decide +kernel
theorem dX2_letLeave_12 : decode cX2_letLeave 12 = .ok (.iload_n 2, 1) := by decide +kernel
theorem dX2_letLeave_13 : decode cX2_letLeave 13 = .ok (.invokevirtual 75, 3) := by decide +kernel
theorem dX2_letLeave_16 : decode cX2_letLeave 16 = .ok (.ifCond .eq 4, 3) := by decide +kernel
theorem dX2_letLeave_19 : decode cX2_letLeave 19 = .ok (.return_, 1) := by decide +kernel
theorem dX2_letLeave_20 : decode cX2_letLeave 20 = .ok (.iload_n 1, 1) := by decide +kernel
theorem dX2_letLeave_21 : decode cX2_letLeave 21 = .ok (.bipush 10, 2) := by decide +kernel
theorem dX2_letLeave_23 : decode cX2_letLeave 23 = .ok (.imul, 1) := by decide +kernel
theorem dX2_letLeave_24 : decode cX2_letLeave 24 = .ok (.iload_n 2, 1) := by decide +kernel
theorem dX2_letLeave_25 : decode cX2_letLeave 25 = .ok (.iadd, 1) := by decide +kernel
theorem dX2_letLeave_26 : decode cX2_letLeave 26 = .ok (.istore 4, 2) := by decide +kernel
theorem dX2_letLeave_28 : decode cX2_letLeave 28 = .ok (.aload_n 0, 1) := by decide +kernel
theorem dX2_letLeave_29 : decode cX2_letLeave 29 = .ok (.getfield 21, 3) := by decide +kernel
theorem dX2_letLeave_32 : decode cX2_letLeave 32 = .ok (.iload 4, 2) := by decide +kernel
theorem dX2_letLeave_34 : decode cX2_letLeave 34 = .ok (.iaload, 1) := by decide +kernel
theorem dX2_letLeave_35 : decode cX2_letLeave 35 = .ok (.iconst (-1), 1) := by decide +kernel
theorem dX2_letLeave_36 : decode cX2_letLeave 36 = .ok (.if_icmp .ne 13, 3) := by decide +kernel
theorem dX2_letLeave_39 : decode cX2_letLeave 39 = .ok (.aload_n 0, 1) := by decide +kernel
theorem dX2_letLeave_40 : decode cX2_letLeave 40 = .ok (.getfield 21, 3) := by decide +kernel
theorem dX2_letLeave_43 : decode cX2_letLeave 43 = .ok (.iload 4, 2) := by decide +kernel
theorem dX2_letLeave_45 : decode cX2_letLeave 45 = .ok (.iload_n 3, 1) := by decide +kernel
theorem dX2_letLeave_46 : decode cX2_letLeave 46 = .ok (.iconst 3, 1) := by decide +kernel
theorem dX2_letLeave_47 : decode cX2_letLeave 47 = .ok (.iadd, 1) := by decide +kernel
theorem dX2_letLeave_48 : decode cX2_letLeave 48 = .ok (.iastore, 1) := by decide +kernel
theorem dX2_letLeave_49 : decode cX2_letLeave 49 = .ok (.return_, 1) := by decide +kernel
theorem dX2_isNeeded_0 : decode cX2_isNeeded 0 = .ok (.aload_n 0, 1) := by decide +kernel
theorem dX2_isNeeded_1 : decode cX2_isNeeded 1 = .ok (.iload_n 1, 1) := by decide +kernel
theorem dX2_isNeeded_2 : decode cX2_isNeeded 2 = .ok (.invokevirtual 78, 3) := by decide +kernel
theorem dX2_isNeeded_5 : decode cX2_isNeeded 5 = .ok (.iload_n 2, 1) := by decide +kernel
theorem dX2_isNeeded_6 : decode cX2_isNeeded 6 = .ok (.invokestatic 57, 3) := by decide +kernel
theorem dX2_isNeeded_9 : decode cX2_isNeeded 9 = .ok (.ifCond .ne 12, 3) := by decide +kernel
theorem dX2_isNeeded_12 : decode cX2_isNeeded 12 = .ok (.aload_n 0, 1) := by decide +kernel
theorem dX2_isNeeded_13 : decode cX2_isNeeded 13 = .ok (.iload_n 1, 1) := by decide +kernel
theorem dX2_isNeeded_14 : decode cX2_isNeeded 14 = .ok (.iload_n 2, 1) := by decide +kernel
theorem dX2_isNeeded_15 : decode cX2_isNeeded 15 = .ok (.invokevirtual 81, 3) := by decide +kernel
theorem dX2_isNeeded_18 : decode cX2_isNeeded 18 = .ok (.ifCond .eq 7, 3) := by decide +kernel
theorem dX2_isNeeded_21 : decode cX2_isNeeded 21 = .ok (.iconst 1, 1) := by decide +kernel
theorem dX2_isNeeded_22 : decode cX2_isNeeded 22 = .ok (.goto 4, 3) := by decide +kernel
theorem dX2_isNeeded_25 : decode cX2_isNeeded 25 = .ok (.iconst 0, 1) := by decide +kernel
theorem dX2_isNeeded_26 : decode cX2_isNeeded 26 = .ok (.ireturn, 1) := by decide +kernel
