theorem dX3_init_0 : decode cX3_init 0 = .ok (.aload_n 0, 1) := by decide +kernel
theorem dX3_init_1 : decode cX3_init 1 = .ok (.invokespecial 3, 3) := by decide +kernel
theorem dX3_init_4 : decode cX3_init 4 = .ok (.aload_n 0, 1) := by decide +kernel
theorem dX3_init_5 : decode cX3_init 5 = .ok (.sipush 200, 3) := by decide +kernel
theorem dX3_init_8 : decode cX3_init 8 = .ok (.newarray .int, 2) := by decide +kernel
theorem dX3_init_10 : decode cX3_init 10 = .ok (.putfield 9, 3) := by decide +kernel
theorem dX3_init_13 : decode cX3_init 13 = .ok (.aload_n 0, 1) := by decide +kernel
theorem dX3_init_14 : decode cX3_init 14 = .ok (.sipush 200, 3) := by decide +kernel
theorem dX3_init_17 : decode cX3_init 17 = .ok (.newarray .int, 2) := by decide +kernel
theorem dX3_init_19 : decode cX3_init 19 = .ok (.putfield 15, 3) := by decide +kernel
theorem dX3_init_22 : decode cX3_init 22 = .ok (.aload_n 0, 1) := by decide +kernel
theorem dX3_init_23 : decode cX3_init 23 = .ok (.sipush 200, 3) := by decide +kernel
theorem dX3_init_26 : decode cX3_init 26 = .ok (.newarray .int, 2) := by decide +kernel
theorem dX3_init_28 : decode cX3_init 28 = .ok (.putfield 18, 3) := by decide +kernel
theorem dX3_init_31 : decode cX3_init 31 = .ok (.aload_n 0, 1) := by decide +kernel
theorem dX3_init_32 : decode cX3_init 32 = .ok (.sipush 200, 3) := by decide +kernel
theorem dX3_init_35 : decode cX3_init 35 = .ok (.newarray .int, 2) := by decide +kernel
theorem dX3_init_37 : decode cX3_init 37 = .ok (.putfield 21, 3) := by decide +kernel
theorem dX3_init_40 : decode cX3_init 40 = .ok (.return_, 1) := by decide +kernel
theorem dX3_isFull_0 : decode cX3_isFull 0 = .ok (.aload_n 0, 1) := by decide +kernel
theorem dX3_isFull_1 : decode cX3_isFull 1 = .ok (.getfield 24, 3) := by decide +kernel
theorem dX3_isFull_4 : decode cX3_isFull 4 = .ok (.sipush 200, 3) := by decide +kernel
theorem dX3_isFull_7 : decode cX3_isFull 7 = .ok (.if_icmp .lt 7, 3) := by decide +kernel
theorem dX3_isFull_10 : decode cX3_isFull 10 = .ok (.iconst 1, 1) := by decide +kernel
theorem dX3_isFull_11 : decode cX3_isFull 11 = .ok (.goto 4, 3) := by decide +kernel
theorem dX3_isFull_14 : decode cX3_isFull 14 = .ok (.iconst 0, 1) := by decide +kernel
theorem dX3_isFull_15 : decode cX3_isFull 15 = .ok (.ireturn, 1) := by decide +kernel
theorem dX3_isPacket_0 : decode cX3_isPacket 0 = .ok (.iload_n 1, 1) := by decide +kernel
theorem dX3_isPacket_1 : decode cX3_isPacket 1 = .ok (.ifCond .lt 22, 3) := by decide +kernel
theorem dX3_isPacket_4 : decode cX3_isPacket 4 = .ok (.iload_n 1, 1) := by decide +kernel
theorem dX3_isPacket_5 : decode cX3_isPacket 5 = .ok (.aload_n 0, 1) := by decide +kernel
theorem dX3_isPacket_6 : decode cX3_isPacket 6 = .ok (.getfield 24, 3) := by decide +kernel
theorem dX3_isPacket_9 : decode cX3_isPacket 9 = .ok (.if_icmp .ge 14, 3) := by decide +kernel
theorem dX3_isPacket_12 : decode cX3_isPacket 12 = .ok (.iload_n 1, 1) := by decide +kernel
theorem dX3_isPacket_13 : decode cX3_isPacket 13 = .ok (.sipush 200, 3) := by decide +kernel
theorem dX3_isPacket_16 : decode cX3_isPacket 16 = .ok (.if_icmp .ge 7, 3) := by decide +kernel
theorem dX3_isPacket_19 : decode cX3_isPacket 19 = .ok (.iconst 1, 1) := by decide +kernel
theorem dX3_isPacket_20 : decode cX3_isPacket 20 = .ok (.goto 4, 3) := by decide +kernel
theorem dX3_isPacket_23 : decode cX3_isPacket 23 = .ok (.iconst 0, 1) := by decide +kernel
theorem dX3_isPacket_24 : decode cX3_isPacket 24 = .ok (.ireturn, 1) := by decide +kernel
theorem dX3_add_0 : decode cX3_add 0 = .ok (.aload_n 0, 1) := by decide +kernel
theorem dX3_add_1 : decode cX3_add 1 = .ok (.invokevirtual 28, 3) := by decide +kernel
theorem dX3_add_4 : decode cX3_add 4 = .ok (.ifCond .eq 5, 3) := by decide +kernel
theorem dX3_add_7 : decode cX3_add 7 = .ok (.iconst (-1), 1) := by decide +kernel
theorem dX3_add_8 : decode cX3_add 8 = .ok (.ireturn, 1) := by decide +kernel
theorem dX3_add_9 : decode cX3_add 9 = .ok (.aload_n 0, 1) := by decide +kernel
theorem dX3_add_10 : decode cX3_add 10 = .ok (.getfield 24, 3) := by decide +kernel
theorem dX3_add_13 : decode cX3_add 13 = .ok (.istore_n 3, 1) := by decide +kernel
theorem dX3_add_14 : decode cX3_add 14 = .ok (.aload_n 0, 1) := by decide +kernel
theorem dX3_add_15 : decode cX3_add 15 = .ok (.getfield 9, 3) := by decide +kernel
theorem dX3_add_18 : decode cX3_add 18 = .ok (.iload_n 3, 1) := by decide +kernel
theorem dX3_add_19 : decode cX3_add 19 = .ok (.iload_n 1, 1) := by decide +kernel
theorem dX3_add_20 : decode cX3_add 20 = .ok (.iastore, 1) := by decide +kernel
theorem dX3_add_21 : decode cX3_add 21 = .ok (.aload_n 0, 1) := by decide +kernel
theorem dX3_add_22 : decode cX3_add 22 = .ok (.getfield 15, 3) := by decide +kernel
theorem dX3_add_25 : decode cX3_add 25 = .ok (.iload_n 3, 1) := by decide +kernel
theorem dX3_add_26 : decode cX3_add 26 = .ok (.iload_n 2, 1) := by decide +kernel
theorem dX3_add_27 : decode cX3_add 27 = .ok (.iastore, 1) := by decide +kernel
theorem dX3_add_28 : decode cX3_add 28 = .ok (.aload_n 0, 1) := by decide +kernel
theorem dX3_add_29 : decode cX3_add 29 = .ok (.dup, 1) := by decide +kernel
theorem dX3_add_30 : decode cX3_add 30 = .ok (.getfield 24, 3) := by decide +kernel
theorem dX3_add_33 : decode cX3_add 33 = .ok (.iconst 1, 1) := by decide +kernel
theorem dX3_add_34 : decode cX3_add 34 = .ok (.iadd, 1) := by decide +kernel
theorem dX3_add_35 : decode cX3_add 35 = .ok (.putfield 24, 3) := by decide +kernel
theorem dX3_add_38 : decode cX3_add 38 = .ok (.iload_n 3, 1) := by decide +kernel
theorem dX3_add_39 : decode cX3_add 39 = .ok (.ireturn, 1) := by decide +kernel
theorem dX3_receive_0 : decode cX3_receive 0 = .ok (.aload_n 0, 1) := by decide +kernel
theorem dX3_receive_1 : decode cX3_receive 1 = .ok (.iload_n 1, 1) := by decide +kernel
theorem dX3_receive_2 : decode cX3_receive 2 = .ok (.invokevirtual 32, 3) := by decide +kernel
theorem dX3_receive_5 : decode cX3_receive 5 = .ok (.ifCond .eq 23, 3) := by decide +kernel
theorem dX3_receive_8 : decode cX3_receive 8 = .ok (.iload_n 2, 1) := by decide +kernel
theorem dX3_receive_9 : decode cX3_receive 9 = .ok (.invokestatic 36, 3) := by decide +kernel
theorem dX3_receive_12 : decode cX3_receive 12 = .ok (.ifCond .eq 16, 3) := by decide +kernel
theorem dX3_receive_15 : decode cX3_receive 15 = .ok (.aload_n 0, 1) := by decide +kernel
theorem dX3_receive_16 : decode cX3_receive 16 = .ok (.getfield 18, 3) := by decide +kernel
theorem dX3_receive_19 : decode cX3_receive 19 = .ok (.iload_n 1, 1) := by decide +kernel
theorem dX3_receive_20 : decode cX3_receive 20 = .ok (.dup2, 1) := by decide +kernel
theorem dX3_receive_21 : decode cX3_receive 21 = .ok (.iaload, 1) := by decide +kernel
theorem dX3_receive_22 : decode cX3_receive 22 = .ok (.iload_n 2, 1) := by decide +kernel
theorem dX3_receive_23 : decode cX3_receive 23 = .ok (.invokestatic 39, 3) := by decide +kernel
theorem dX3_receive_26 : decode cX3_receive 26 = .ok (.ior, 1) := by decide +kernel
theorem dX3_receive_27 : decode cX3_receive 27 = .ok (.iastore, 1) := by decide +kernel
theorem dX3_receive_28 : decode cX3_receive 28 = .ok (.return_, 1) := by decide +kernel
theorem dX3_addDouble_0 : decode cX3_addDouble 0 = .ok (.aload_n 0, 1) := by decide +kernel
theorem dX3_addDouble_1 : decode cX3_addDouble 1 = .ok (.iload_n 1, 1) := by decide +kernel
theorem dX3_addDouble_2 : decode cX3_addDouble 2 = .ok (.invokevirtual 32, 3) := by decide +kernel
theorem dX3_addDouble_5 : decode cX3_addDouble 5 = .ok (.ifCond .eq 13, 3) := by decide +kernel
theorem dX3_addDouble_8 : decode cX3_addDouble 8 = .ok (.aload_n 0, 1) := by decide +kernel
theorem dX3_addDouble_9 : decode cX3_addDouble 9 = .ok (.getfield 21, 3) := by decide +kernel
theorem dX3_addDouble_12 : decode cX3_addDouble 12 = .ok (.iload_n 1, 1) := by decide +kernel
theorem dX3_addDouble_13 : decode cX3_addDouble 13 = .ok (.dup2, 1) := by decide +kernel
theorem dX3_addDouble_14 : decode cX3_addDouble 14 = .ok (.iaload, 1) := by decide +kernel
theorem dX3_addDouble_15 : decode cX3_addDouble 15 = .ok (.iconst 1, 1) := by decide +kernel
theorem dX3_addDouble_16 : decode cX3_addDouble 16 = .ok (.iadd, 1) := by decide +kernel
theorem dX3_addDouble_17 : decode cX3_addDouble 17 = .ok (.iastore, 1) := by decide +kernel
theorem dX3_addDouble_18 : decode cX3_addDouble 18 = .ok (.return_, 1) := by decide +kernel
theorem dX3_sourceOf_0 : decode cX3_sourceOf 0 = .ok (.aload_n 0, 1) := by decide +kernel
theorem dX3_sourceOf_1 : decode cX3_sourceOf 1 = .ok (.iload_n 1, 1) := by decide +kernel
theorem dX3_sourceOf_2 : decode cX3_sourceOf 2 = .ok (.invokevirtual 32, 3) := by decide +kernel
theorem dX3_sourceOf_5 : decode cX3_sourceOf 5 = .ok (.ifCond .eq 12, 3) := by decide +kernel
theorem dX3_sourceOf_8 : decode cX3_sourceOf 8 = .ok (.aload_n 0, 1) := by decide +kernel
theorem dX3_sourceOf_9 : decode cX3_sourceOf 9 = .ok (.getfield 9, 3) := by decide +kernel
theorem dX3_sourceOf_12 : decode cX3_sourceOf 12 = .ok (.iload_n 1, 1) := by decide +kernel
theorem dX3_sourceOf_13 : decode cX3_sourceOf 13 = .ok (.iaload, 1) := by decide +kernel
theorem dX3_sourceOf_14 : decode cX3_sourceOf 14 = .ok (.goto 4, 3) := by decide +kernel
theorem dX3_sourceOf_17 : decode cX3_sourceOf 17 = .ok (.iconst (-1), 1) := by decide +kernel
theorem dX3_sourceOf_18 : decode cX3_sourceOf 18 = .ok (.ireturn, 1) := by decide +kernel
theorem dX3_groupOf_0 : decode cX3_groupOf 0 = .ok (.aload_n 0, 1) := by decide +kernel
theorem dX3_groupOf_1 : decode cX3_groupOf 1 = .ok (.iload_n 1, 1) := by decide +kernel
theorem dX3_groupOf_2 : decode cX3_groupOf 2 = .ok (.invokevirtual 32, 3) := by decide +kernel
theorem dX3_groupOf_5 : decode cX3_groupOf 5 = .ok (.ifCond .eq 12, 3) := by decide +kernel
theorem dX3_groupOf_8 : decode cX3_groupOf 8 = .ok (.aload_n 0, 1) := by decide +kernel
theorem dX3_groupOf_9 : decode cX3_groupOf 9 = .ok (.getfield 15, 3) := by decide +kernel
theorem dX3_groupOf_12 : decode cX3_groupOf 12 = .ok (.iload_n 1, 1) := by decide +kernel
theorem dX3_groupOf_13 : decode cX3_groupOf 13 = .ok (.iaload, 1) := by decide +kernel
theorem dX3_groupOf_14 : decode cX3_groupOf 14 = .ok (.goto 4, 3) := by decide +kernel
theorem dX3_groupOf_17 : decode cX3_groupOf 17 = .ok (.iconst (-1), 1) := by decide +kernel
theorem dX3_groupOf_18 : decode cX3_groupOf 18 = .ok (.ireturn, 1) := by decide +kernel
theorem dX3_receiversOf_0 : decode cX3_receiversOf 0 = .ok (.aload_n 0, 1) := by decide +kernel
theorem dX3_receiversOf_1 : decode cX3_receiversOf 1 = .ok (.iload_n 1, 1) := by decide +kernel
theorem dX3_receiversOf_2 : decode cX3_receiversOf 2 = .ok (.invokevirtual 32, 3) := by decide +kernel
theorem dX3_receiversOf_5 : decode cX3_receiversOf 5 = .ok (.ifCond .eq 12, 3) := by decide +kernel
theorem dX3_receiversOf_8 : decode cX3_receiversOf 8 = .ok (.aload_n 0, 1) := by decide +kernel
theorem dX3_receiversOf_9 : decode cX3_receiversOf 9 = .ok (.getfield 18, 3) := by decide +kernel
theorem dX3_receiversOf_12 : decode cX3_receiversOf 12 = .ok (.iload_n 1, 1) := by decide +kernel
theorem dX3_receiversOf_13 : decode cX3_receiversOf 13 = .ok (.iaload, 1) := by decide +kernel
theorem dX3_receiversOf_14 : decode cX3_receiversOf 14 = .ok (.goto 4, 3) := by decide +kernel
theorem dX3_receiversOf_17 : decode cX3_receiversOf 17 = .ok (.iconst 0, 1) := by decide +kernel
theorem dX3_receiversOf_18 : decode cX3_receiversOf 18 = .ok (.ireturn, 1) := by decide +kernel
theorem dX3_doublesOf_0 : decode cX3_doublesOf 0 = .ok (.aload_n 0, 1) := by decide +kernel
theorem dX3_doublesOf_1 : decode cX3_doublesOf 1 = .ok (.iload_n 1, 1) := by decide +kernel
theorem dX3_doublesOf_2 : decode cX3_doublesOf 2 = .ok (.invokevirtual 32, 3) := by decide +kernel
theorem dX3_doublesOf_5 : decode cX3_doublesOf 5 = .ok (.ifCond .eq 12, 3) := by decide +kernel
theorem dX3_doublesOf_8 : decode cX3_doublesOf 8 = .ok (.aload_n 0, 1) := by decide +kernel
theorem dX3_doublesOf_9 : decode cX3_doublesOf 9 = .ok (.getfield 21, 3) := by decide +kernel
theorem dX3_doublesOf_12 : decode cX3_doublesOf 12 = .ok (.iload_n 1, 1) := by decide +kernel
theorem dX3_doublesOf_13 : decode cX3_doublesOf 13 = .ok (.iaload, 1) := by decide +kernel
theorem dX3_doublesOf_14 : decode cX3_doublesOf 14 = .ok (.goto 4, 3) := by decide +kernel
theorem dX3_doublesOf_17 : decode cX3_doublesOf 17 = .ok (.iconst 0, 1) := by decide +kernel
theorem dX3_doublesOf_18 : decode cX3_doublesOf 18 = .ok (.ireturn, 1) := by decide +kernel
