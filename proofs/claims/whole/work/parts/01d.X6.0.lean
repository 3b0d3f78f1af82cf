theorem dX6_init_0 : decode cX6_init 0 = .ok (.aload_n 0, 1) := by decide +kernel
theorem dX6_init_1 : decode cX6_init 1 = .ok (.invokespecial 1, 3) := by decide +kernel
theorem dX6_init_4 : decode cX6_init 4 = .ok (.aload_n 0, 1) := by decide +kernel
theorem dX6_init_5 : decode cX6_init 5 = .ok (.iconst 3, 1) := by decide +kernel
theorem dX6_init_6 : decode cX6_init 6 = .ok (.putfield 7, 3) := by decide +kernel
theorem dX6_init_9 : decode cX6_init 9 = .ok (.aload_n 0, 1) := by decide +kernel
theorem dX6_init_10 : decode cX6_init 10 = .ok (.bipush 100, 2) := by decide +kernel
theorem dX6_init_12 : decode cX6_init 12 = .ok (.newarray .int, 2) := by decide +kernel
theorem dX6_init_14 : decode cX6_init 14 = .ok (.putfield 13, 3) := by decide +kernel
theorem dX6_init_17 : decode cX6_init 17 = .ok (.aload_n 0, 1) := by decide +kernel
theorem dX6_init_18 : decode cX6_init 18 = .ok (.bipush 100, 2) := by decide +kernel
theorem dX6_init_20 : decode cX6_init 20 = .ok (.newarray .int, 2) := by decide +kernel
theorem dX6_init_22 : decode cX6_init 22 = .ok (.putfield 17, 3) := by decide +kernel
theorem dX6_init_25 : decode cX6_init 25 = .ok (.aload_n 0, 1) := by decide +kernel
theorem dX6_init_26 : decode cX6_init 26 = .ok (.bipush 10, 2) := by decide +kernel
theorem dX6_init_28 : decode cX6_init 28 = .ok (.newarray .boolean, 2) := by decide +kernel
theorem dX6_init_30 : decode cX6_init 30 = .ok (.putfield 20, 3) := by decide +kernel
theorem dX6_init_33 : decode cX6_init 33 = .ok (.aload_n 0, 1) := by decide +kernel
theorem dX6_init_34 : decode cX6_init 34 = .ok (.iconst 4, 1) := by decide +kernel
theorem dX6_init_35 : decode cX6_init 35 = .ok (.newarray .int, 2) := by decide +kernel
theorem dX6_init_37 : decode cX6_init 37 = .ok (.putfield 24, 3) := by decide +kernel
theorem dX6_init_40 : decode cX6_init 40 = .ok (.aload_n 0, 1) := by decide +kernel
theorem dX6_init_41 : decode cX6_init 41 = .ok (.bipush 40, 2) := by decide +kernel
theorem dX6_init_43 : decode cX6_init 43 = .ok (.newarray .int, 2) := by decide +kernel
theorem dX6_init_45 : decode cX6_init 45 = .ok (.putfield 27, 3) := by decide +kernel
theorem dX6_init_48 : decode cX6_init 48 = .ok (.aload_n 0, 1) := by decide +kernel
theorem dX6_init_49 : decode cX6_init 49 = .ok (.sipush 400, 3) := by decide +kernel
theorem dX6_init_52 : decode cX6_init 52 = .ok (.newarray .int, 2) := by decide +kernel
theorem dX6_init_54 : decode cX6_init 54 = .ok (.putfield 30, 3) := by decide +kernel
theorem dX6_init_57 : decode cX6_init 57 = .ok (.aload_n 0, 1) := by decide +kernel
theorem dX6_init_58 : decode cX6_init 58 = .ok (.sipush 440, 3) := by decide +kernel
theorem dX6_init_61 : decode cX6_init 61 = .ok (.newarray .int, 2) := by decide +kernel
theorem dX6_init_63 : decode cX6_init 63 = .ok (.putfield 33, 3) := by decide +kernel
theorem dX6_init_66 : decode cX6_init 66 = .ok (.aload_n 0, 1) := by decide +kernel
theorem dX6_init_67 : decode cX6_init 67 = .ok (.sipush 440, 3) := by decide +kernel
theorem dX6_init_70 : decode cX6_init 70 = .ok (.newarray .int, 2) := by decide +kernel
theorem dX6_init_72 : decode cX6_init 72 = .ok (.putfield 36, 3) := by decide +kernel
theorem dX6_init_75 : decode cX6_init 75 = .ok (.aload_n 0, 1) := by decide +kernel
theorem dX6_init_76 : decode cX6_init 76 = .ok (.sipush 800, 3) := by decide +kernel
theorem dX6_init_79 : decode cX6_init 79 = .ok (.newarray .int, 2) := by decide +kernel
theorem dX6_init_81 : decode cX6_init 81 = .ok (.putfield 39, 3) := by decide +kernel
theorem dX6_init_84 : decode cX6_init 84 = .ok (.aload_n 0, 1) := by decide +kernel
theorem dX6_init_85 : decode cX6_init 85 = .ok (.sipush 200, 3) := by decide +kernel
theorem dX6_init_88 : decode cX6_init 88 = .ok (.newarray .int, 2) := by decide +kernel
theorem dX6_init_90 : decode cX6_init 90 = .ok (.putfield 42, 3) := by decide +kernel
theorem dX6_init_93 : decode cX6_init 93 = .ok (.aload_n 0, 1) := by decide +kernel
theorem dX6_init_94 : decode cX6_init 94 = .ok (.sipush 200, 3) := by decide +kernel
theorem dX6_init_97 : decode cX6_init 97 = .ok (.newarray .int, 2) := by decide +kernel
theorem dX6_init_99 : decode cX6_init 99 = .ok (.putfield 45, 3) := by decide +kernel
theorem dX6_init_102 : decode cX6_init 102 = .ok (.aload_n 0, 1) := by decide +kernel
theorem dX6_init_103 : decode cX6_init 103 = .ok (.sipush 200, 3) := by decide +kernel
theorem dX6_init_106 : decode cX6_init 106 = .ok (.newarray .int, 2) := by decide +kernel
theorem dX6_init_108 : decode cX6_init 108 = .ok (.putfield 48, 3) := by decide +kernel
theorem dX6_init_111 : decode cX6_init 111 = .ok (.aload_n 0, 1) := by decide +kernel
theorem dX6_init_112 : decode cX6_init 112 = .ok (.sipush 200, 3) := by decide +kernel
theorem dX6_init_115 : decode cX6_init 115 = .ok (.newarray .int, 2) := by decide +kernel
theorem dX6_init_117 : decode cX6_init 117 = .ok (.putfield 51, 3) := by decide +kernel
theorem dX6_init_120 : decode cX6_init 120 = .ok (.aload_n 0, 1) := by decide +kernel
theorem dX6_init_121 : decode cX6_init 121 = .ok (.invokevirtual 54, 3) := by decide +kernel
theorem dX6_init_124 : decode cX6_init 124 = .ok (.iconst 0, 1) := by decide +kernel
theorem dX6_init_125 : decode cX6_init 125 = .ok (.istore_n 1, 1) := by decide +kernel
theorem dX6_init_126 : decode cX6_init 126 = .ok (.iload_n 1, 1) := by decide +kernel
theorem dX6_init_127 : decode cX6_init 127 = .ok (.sipush 440, 3) := by decide +kernel
theorem dX6_init_130 : decode cX6_init 130 = .ok (.if_icmp .ge 23, 3) := by decide +kernel
theorem dX6_init_133 : decode cX6_init 133 = .ok (.aload_n 0, 1) := by decide +kernel
theorem dX6_init_134 : decode cX6_init 134 = .ok (.getfield 33, 3) := by decide +kernel
theorem dX6_init_137 : decode cX6_init 137 = .ok (.iload_n 1, 1) := by decide +kernel
theorem dX6_init_138 : decode cX6_init 138 = .ok (.iconst (-1), 1) := by decide +kernel
theorem dX6_init_139 : decode cX6_init 139 = .ok (.iastore, 1) := by decide +kernel
theorem dX6_init_140 : decode cX6_init 140 = .ok (.aload_n 0, 1) := by decide +kernel
theorem dX6_init_141 : decode cX6_init 141 = .ok (.getfield 36, 3) := by decide +kernel
theorem dX6_init_144 : decode cX6_init 144 = .ok (.iload_n 1, 1) := by decide +kernel
theorem dX6_init_145 : decode cX6_init 145 = .ok (.iconst (-1), 1) := by decide +kernel
theorem dX6_init_146 : decode cX6_init 146 = .ok (.iastore, 1) := by decide +kernel
theorem dX6_init_147 : decode cX6_init 147 = .ok (.iinc 1 1, 3) := by decide +kernel
theorem dX6_init_150 : decode cX6_init 150 = .ok (.goto (-24), 3) := by decide +kernel
theorem dX6_init_153 : decode cX6_init 153 = .ok (.return_, 1) := by decide +kernel
theorem dX6_thrown_0 : decode cX6_thrown 0 = .ok (.aload_n 0, 1) := by decide +kernel
theorem dX6_thrown_1 : decode cX6_thrown 1 = .ok (.getfield 57, 3) := by decide +kernel
theorem dX6_thrown_4 : decode cX6_thrown 4 = .ok (.ireturn, 1) := by decide +kernel
theorem dX6_can_0 : decode cX6_can 0 = .ok (.aload_n 0, 1) := by decide +kernel
theorem dX6_can_1 : decode cX6_can 1 = .ok (.iload_n 1, 1) := by decide +kernel
theorem dX6_can_2 : decode cX6_can 2 = .ok (.putfield 57, 3) := by decide +kernel
theorem dX6_can_5 : decode cX6_can 5 = .ok (.iload_n 1, 1) := by decide +kernel
theorem dX6_can_6 : decode cX6_can 6 = .ok (.ifCond .ne 7, 3) := by decide +kernel
theorem dX6_can_9 : decode cX6_can 9 = .ok (.iconst 1, 1) := by decide +kernel
theorem dX6_can_10 : decode cX6_can 10 = .ok (.goto 4, 3) := by decide +kernel
theorem dX6_can_13 : decode cX6_can 13 = .ok (.iconst 0, 1) := by decide +kernel
theorem dX6_can_14 : decode cX6_can 14 = .ok (.ireturn, 1) := by decide +kernel
theorem dX6_isRouter_0 : decode cX6_isRouter 0 = .ok (.iload_n 0, 1) := by decide +kernel
theorem dX6_isRouter_1 : decode cX6_isRouter 1 = .ok (.ifCond .lt 13, 3) := by decide +kernel
theorem dX6_isRouter_4 : decode cX6_isRouter 4 = .ok (.iload_n 0, 1) := by decide +kernel
theorem dX6_isRouter_5 : decode cX6_isRouter 5 = .ok (.bipush 10, 2) := by decide +kernel
theorem dX6_isRouter_7 : decode cX6_isRouter 7 = .ok (.if_icmp .ge 7, 3) := by decide +kernel
theorem dX6_isRouter_10 : decode cX6_isRouter 10 = .ok (.iconst 1, 1) := by decide +kernel
theorem dX6_isRouter_11 : decode cX6_isRouter 11 = .ok (.goto 4, 3) := by decide +kernel
theorem dX6_isRouter_14 : decode cX6_isRouter 14 = .ok (.iconst 0, 1) := by decide +kernel
theorem dX6_isRouter_15 : decode cX6_isRouter 15 = .ok (.ireturn, 1) := by decide +kernel
theorem dX6_isGroup_0 : decode cX6_isGroup 0 = .ok (.iload_n 0, 1) := by decide +kernel
theorem dX6_isGroup_1 : decode cX6_isGroup 1 = .ok (.ifCond .lt 12, 3) := by decide +kernel
theorem dX6_isGroup_4 : decode cX6_isGroup 4 = .ok (.iload_n 0, 1) := by decide +kernel
theorem dX6_isGroup_5 : decode cX6_isGroup 5 = .ok (.iconst 4, 1) := by decide +kernel
theorem dX6_isGroup_6 : decode cX6_isGroup 6 = .ok (.if_icmp .ge 7, 3) := by decide +kernel
theorem dX6_isGroup_9 : decode cX6_isGroup 9 = .ok (.iconst 1, 1) := by decide +kernel
theorem dX6_isGroup_10 : decode cX6_isGroup 10 = .ok (.goto 4, 3) := by decide +kernel
theorem dX6_isGroup_13 : decode cX6_isGroup 13 = .ok (.iconst 0, 1) := by decide +kernel
theorem dX6_isGroup_14 : decode cX6_isGroup 14 = .ok (.ireturn, 1) := by decide +kernel
theorem dX6_measures_0 : decode cX6_measures 0 = .ok (.iconst 0, 1) := by decide +kernel
theorem dX6_measures_1 : decode cX6_measures 1 = .ok (.istore_n 1, 1) := by decide +kernel
theorem dX6_measures_2 : decode cX6_measures 2 = .ok (.iload_n 1, 1) := by decide +kernel
theorem dX6_measures_3 : decode cX6_measures 3 = .ok (.bipush 100, 2) := by decide +kernel
theorem dX6_measures_5 : decode cX6_measures 5 = .ok (.if_icmp .ge 50, 3) := by decide +kernel
theorem dX6_measures_8 : decode cX6_measures 8 = .ok (.aload_n 0, 1) := by decide +kernel
theorem dX6_measures_9 : decode cX6_measures 9 = .ok (.getfield 17, 3) := by decide +kernel
theorem dX6_measures_12 : decode cX6_measures 12 = .ok (.iload_n 1, 1) := by decide +kernel
theorem dX6_measures_13 : decode cX6_measures 13 = .ok (.iload_n 1, 1) := by decide +kernel
theorem dX6_measures_14 : decode cX6_measures 14 = .ok (.bipush 10, 2) := by decide +kernel
theorem dX6_measures_16 : decode cX6_measures 16 = .ok (.idiv, 1) := by decide +kernel
theorem dX6_measures_17 : decode cX6_measures 17 = .ok (.iload_n 1, 1) := by decide +kernel
theorem dX6_measures_18 : decode cX6_measures 18 = .ok (.bipush 10, 2) := by decide +kernel
theorem dX6_measures_20 : decode cX6_measures 20 = .ok (.irem, 1) := by decide +kernel
theorem dX6_measures_21 : decode cX6_measures 21 = .ok (.if_icmp .ne 7, 3) := by decide +kernel
theorem dX6_measures_24 : decode cX6_measures 24 = .ok (.iconst 0, 1) := by decide +kernel
theorem dX6_measures_25 : decode cX6_measures 25 = .ok (.goto 23, 3) := by decide +kernel
theorem dX6_measures_28 : decode cX6_measures 28 = .ok (.aload_n 0, 1) := by decide +kernel
theorem dX6_measures_29 : decode cX6_measures 29 = .ok (.getfield 13, 3) := by decide +kernel
theorem dX6_measures_32 : decode cX6_measures 32 = .ok (.iload_n 1, 1) := by decide +kernel
theorem dX6_measures_33 : decode cX6_measures 33 = .ok (.iaload, 1) := by decide +kernel
theorem dX6_measures_34 : decode cX6_measures 34 = .ok (.ifCond .le 12, 3) := by decide +kernel
theorem dX6_measures_37 : decode cX6_measures 37 = .ok (.aload_n 0, 1) := by decide +kernel
theorem dX6_measures_38 : decode cX6_measures 38 = .ok (.getfield 13, 3) := by decide +kernel
theorem dX6_measures_41 : decode cX6_measures 41 = .ok (.iload_n 1, 1) := by decide +kernel
theorem dX6_measures_42 : decode cX6_measures 42 = .ok (.iaload, 1) := by decide +kernel
theorem dX6_measures_43 : decode cX6_measures 43 = .ok (.goto 5, 3) := by decide +kernel
theorem dX6_measures_46 : decode cX6_measures 46 = .ok (.ldc 60, 2) := by decide +kernel
theorem dX6_measures_48 : decode cX6_measures 48 = .ok (.iastore, 1) := by decide +kernel
theorem dX6_measures_49 : decode cX6_measures 49 = .ok (.iinc 1 1, 3) := by decide +kernel
theorem dX6_measures_52 : decode cX6_measures 52 = .ok (.goto (-50), 3) := by decide +kernel
theorem dX6_measures_55 : decode cX6_measures 55 = .ok (.iconst 0, 1) := by decide +kernel
theorem dX6_measures_56 : decode cX6_measures 56 = .ok (.istore_n 1, 1) := by decide +kernel
theorem dX6_measures_57 : decode cX6_measures 57 = .ok (.iload_n 1, 1) := by decide +kernel
theorem dX6_measures_58 : decode cX6_measures 58 = .ok (.bipush 10, 2) := by decide +kernel
theorem dX6_measures_60 : decode cX6_measures 60 = .ok (.if_icmp .ge 79, 3) := by decide +kernel
theorem dX6_measures_63 : decode cX6_measures 63 = .ok (.iconst 0, 1) := by decide +kernel
theorem dX6_measures_64 : decode cX6_measures 64 = .ok (.istore_n 2, 1) := by decide +kernel
theorem dX6_measures_65 : decode cX6_measures 65 = .ok (.iload_n 2, 1) := by decide +kernel
theorem dX6_measures_66 : decode cX6_measures 66 = .ok (.bipush 100, 2) := by decide +kernel
theorem dX6_measures_68 : decode cX6_measures 68 = .ok (.if_icmp .ge 65, 3) := by decide +kernel
theorem dX6_measures_71 : decode cX6_measures 71 = .ok (.aload_n 0, 1) := by decide +kernel
theorem dX6_measures_72 : decode cX6_measures 72 = .ok (.getfield 17, 3) := by decide +kernel
theorem dX6_measures_75 : decode cX6_measures 75 = .ok (.bipush 10, 2) := by decide +kernel
theorem dX6_measures_77 : decode cX6_measures 77 = .ok (.iload_n 2, 1) := by decide +kernel
theorem dX6_measures_78 : decode cX6_measures 78 = .ok (.bipush 10, 2) := by decide +kernel
theorem dX6_measures_80 : decode cX6_measures 80 = .ok (.idiv, 1) := by decide +kernel
theorem dX6_measures_81 : decode cX6_measures 81 = .ok (.imul, 1) := by decide +kernel
theorem dX6_measures_82 : decode cX6_measures 82 = .ok (.iload_n 1, 1) := by decide +kernel
theorem dX6_measures_83 : decode cX6_measures 83 = .ok (.iadd, 1) := by decide +kernel
theorem dX6_measures_84 : decode cX6_measures 84 = .ok (.iaload, 1) := by decide +kernel
theorem dX6_measures_85 : decode cX6_measures 85 = .ok (.aload_n 0, 1) := by decide +kernel
theorem dX6_measures_86 : decode cX6_measures 86 = .ok (.getfield 17, 3) := by decide +kernel
theorem dX6_measures_89 : decode cX6_measures 89 = .ok (.bipush 10, 2) := by decide +kernel
theorem dX6_measures_91 : decode cX6_measures 91 = .ok (.iload_n 1, 1) := by decide +kernel
theorem dX6_measures_92 : decode cX6_measures 92 = .ok (.imul, 1) := by decide +kernel
theorem dX6_measures_93 : decode cX6_measures 93 = .ok (.iload_n 2, 1) := by decide +kernel
theorem dX6_measures_94 : decode cX6_measures 94 = .ok (.bipush 10, 2) := by decide +kernel
theorem dX6_measures_96 : decode cX6_measures 96 = .ok (.irem, 1) := by decide +kernel
theorem dX6_measures_97 : decode cX6_measures 97 = .ok (.iadd, 1) := by decide +kernel
theorem dX6_measures_98 : decode cX6_measures 98 = .ok (.iaload, 1) := by decide +kernel
theorem dX6_measures_99 : decode cX6_measures 99 = .ok (.iadd, 1) := by decide +kernel
theorem dX6_measures_100 : decode cX6_measures 100 = .ok (.istore_n 3, 1) := by decide +kernel
theorem dX6_measures_101 : decode cX6_measures 101 = .ok (.aload_n 0, 1) := by decide +kernel
theorem dX6_measures_102 : decode cX6_measures 102 = .ok (.getfield 17, 3) := by decide +kernel
theorem dX6_measures_105 : decode cX6_measures 105 = .ok (.iload_n 2, 1) := by decide +kernel
theorem dX6_measures_106 : decode cX6_measures 106 = .ok (.iload_n 3, 1) := by decide +kernel
theorem dX6_measures_107 : decode cX6_measures 107 = .ok (.aload_n 0, 1) := by decide +kernel
theorem dX6_measures_108 : decode cX6_measures 108 = .ok (.getfield 17, 3) := by decide +kernel
theorem dX6_measures_111 : decode cX6_measures 111 = .ok (.iload_n 2, 1) := by decide +kernel
theorem dX6_measures_112 : decode cX6_measures 112 = .ok (.iaload, 1) := by decide +kernel
theorem dX6_measures_113 : decode cX6_measures 113 = .ok (.if_icmp .ge 7, 3) := by decide +kernel
theorem dX6_measures_116 : decode cX6_measures 116 = .ok (.iload_n 3, 1) := by decide +kernel
theorem dX6_measures_117 : decode cX6_measures 117 = .ok (.goto 9, 3) := by decide +kernel
theorem dX6_measures_120 : decode cX6_measures 120 = .ok (.aload_n 0, 1) := by decide +kernel
theorem dX6_measures_121 : decode cX6_measures 121 = .ok (.getfield 17, 3) := by decide +kernel
theorem dX6_measures_124 : decode cX6_measures 124 = .ok (.iload_n 2, 1) := by decide +kernel
theorem dX6_measures_125 : decode cX6_measures 125 = .ok (.iaload, 1) := by decide +kernel
theorem dX6_measures_126 : decode cX6_measures 126 = .ok (.iastore, 1) := by decide +kernel
theorem dX6_measures_127 : decode cX6_measures 127 = .ok (.iinc 2 1, 3) := by decide +kernel
theorem dX6_measures_130 : decode cX6_measures 130 = .ok (.goto (-65), 3) := by decide +kernel
theorem dX6_measures_133 : decode cX6_measures 133 = .ok (.iinc 1 1, 3) := by decide +kernel
theorem dX6_measures_136 : decode cX6_measures 136 = .ok (.goto (-79), 3) := by decide +kernel
theorem dX6_measures_139 : decode cX6_measures 139 = .ok (.return_, 1) := by decide +kernel
theorem dX6_hop_0 : decode cX6_hop 0 = .ok (.iconst (-1), 1) := by decide +kernel
theorem dX6_hop_1 : decode cX6_hop 1 = .ok (.istore_n 3, 1) := by decide +kernel
theorem dX6_hop_2 : decode cX6_hop 2 = .ok (.aload_n 0, 1) := by decide +kernel
theorem dX6_hop_3 : decode cX6_hop 3 = .ok (.getfield 17, 3) := by decide +kernel
theorem dX6_hop_6 : decode cX6_hop 6 = .ok (.bipush 10, 2) := by decide +kernel
theorem dX6_hop_8 : decode cX6_hop 8 = .ok (.iload_n 1, 1) := by decide +kernel
theorem dX6_hop_9 : decode cX6_hop 9 = .ok (.imul, 1) := by decide +kernel
theorem dX6_hop_10 : decode cX6_hop 10 = .ok (.iload_n 2, 1) := by decide +kernel
theorem dX6_hop_11 : decode cX6_hop 11 = .ok (.iadd, 1) := by decide +kernel
theorem dX6_hop_12 : decode cX6_hop 12 = .ok (.iaload, 1) := by decide +kernel
theorem dX6_hop_13 : decode cX6_hop 13 = .ok (.istore 4, 2) := by decide +kernel
theorem dX6_hop_15 : decode cX6_hop 15 = .ok (.bipush 9, 2) := by decide +kernel
theorem dX6_hop_17 : decode cX6_hop 17 = .ok (.istore 5, 2) := by decide +kernel
theorem dX6_hop_19 : decode cX6_hop 19 = .ok (.iload 5, 2) := by decide +kernel
theorem dX6_hop_21 : decode cX6_hop 21 = .ok (.ifCond .lt 67, 3) := by decide +kernel
theorem dX6_hop_24 : decode cX6_hop 24 = .ok (.iload_n 1, 1) := by decide +kernel
theorem dX6_hop_25 : decode cX6_hop 25 = .ok (.iload_n 2, 1) := by decide +kernel
theorem dX6_hop_26 : decode cX6_hop 26 = .ok (.if_icmp .eq 62, 3) := by decide +kernel
theorem dX6_hop_29 : decode cX6_hop 29 = .ok (.iload 4, 2) := by decide +kernel
theorem dX6_hop_31 : decode cX6_hop 31 = .ok (.ldc 60, 2) := by decide +kernel
theorem dX6_hop_33 : decode cX6_hop 33 = .ok (.if_icmp .ge 55, 3) := by decide +kernel
theorem dX6_hop_36 : decode cX6_hop 36 = .ok (.aload_n 0, 1) := by decide +kernel
theorem dX6_hop_37 : decode cX6_hop 37 = .ok (.getfield 13, 3) := by decide +kernel
theorem dX6_hop_40 : decode cX6_hop 40 = .ok (.bipush 10, 2) := by decide +kernel
theorem dX6_hop_42 : decode cX6_hop 42 = .ok (.iload_n 1, 1) := by decide +kernel
theorem dX6_hop_43 : decode cX6_hop 43 = .ok (.imul, 1) := by decide +kernel
theorem dX6_hop_44 : decode cX6_hop 44 = .ok (.iload 5, 2) := by decide +kernel
theorem dX6_hop_46 : decode cX6_hop 46 = .ok (.iadd, 1) := by decide +kernel
theorem dX6_hop_47 : decode cX6_hop 47 = .ok (.iaload, 1) := by decide +kernel
theorem dX6_hop_48 : decode cX6_hop 48 = .ok (.istore 6, 2) := by decide +kernel
theorem dX6_hop_50 : decode cX6_hop 50 = .ok (.iload 6, 2) := by decide +kernel
theorem dX6_hop_52 : decode cX6_hop 52 = .ok (.ifCond .le 28, 3) := by decide +kernel
theorem dX6_hop_55 : decode cX6_hop 55 = .ok (.iload 6, 2) := by decide +kernel
theorem dX6_hop_57 : decode cX6_hop 57 = .ok (.aload_n 0, 1) := by decide +kernel
theorem dX6_hop_58 : decode cX6_hop 58 = .ok (.getfield 17, 3) := by decide +kernel
theorem dX6_hop_61 : decode cX6_hop 61 = .ok (.bipush 10, 2) := by decide +kernel
theorem dX6_hop_63 : decode cX6_hop 63 = .ok (.iload 5, 2) := by decide +kernel
theorem dX6_hop_65 : decode cX6_hop 65 = .ok (.imul, 1) := by decide +kernel
theorem dX6_hop_66 : decode cX6_hop 66 = .ok (.iload_n 2, 1) := by decide +kernel
theorem dX6_hop_67 : decode cX6_hop 67 = .ok (.iadd, 1) := by decide +kernel
theorem dX6_hop_68 : decode cX6_hop 68 = .ok (.iaload, 1) := by decide +kernel
theorem dX6_hop_69 : decode cX6_hop 69 = .ok (.iadd, 1) := by decide +kernel
theorem dX6_hop_70 : decode cX6_hop 70 = .ok (.iload 4, 2) := by decide +kernel
theorem dX6_hop_72 : decode cX6_hop 72 = .ok (.if_icmp .ne 8, 3) := by decide +kernel
theorem dX6_hop_75 : decode cX6_hop 75 = .ok (.iload 5, 2) := by decide +kernel
theorem dX6_hop_77 : decode cX6_hop 77 = .ok (.goto 4, 3) := by decide +kernel
theorem dX6_hop_80 : decode cX6_hop 80 = .ok (.iload_n 3, 1) := by decide +kernel
theorem dX6_hop_81 : decode cX6_hop 81 = .ok (.istore_n 3, 1) := by decide +kernel
theorem dX6_hop_82 : decode cX6_hop 82 = .ok (.iinc 5 (-1), 3) := by decide +kernel
theorem dX6_hop_85 : decode cX6_hop 85 = .ok (.goto (-66), 3) := by decide +kernel
theorem dX6_hop_88 : decode cX6_hop 88 = .ok (.iload_n 3, 1) := by decide +kernel
theorem dX6_hop_89 : decode cX6_hop 89 = .ok (.ireturn, 1) := by decide +kernel
theorem dX6_root_0 : decode cX6_root 0 = .ok (.iload_n 1, 1) := by decide +kernel
theorem dX6_root_1 : decode cX6_root 1 = .ok (.bipush 11, 2) := by decide +kernel
theorem dX6_root_3 : decode cX6_root 3 = .ok (.irem, 1) := by decide +kernel
theorem dX6_root_4 : decode cX6_root 4 = .ok (.bipush 10, 2) := by decide +kernel
theorem dX6_root_6 : decode cX6_root 6 = .ok (.if_icmp .ne 14, 3) := by decide +kernel
theorem dX6_root_9 : decode cX6_root 9 = .ok (.aload_n 0, 1) := by decide +kernel
theorem dX6_root_10 : decode cX6_root 10 = .ok (.iload_n 1, 1) := by decide +kernel
theorem dX6_root_11 : decode cX6_root 11 = .ok (.bipush 11, 2) := by decide +kernel
theorem dX6_root_13 : decode cX6_root 13 = .ok (.idiv, 1) := by decide +kernel
theorem dX6_root_14 : decode cX6_root 14 = .ok (.invokevirtual 61, 3) := by decide +kernel
theorem dX6_root_17 : decode cX6_root 17 = .ok (.goto 7, 3) := by decide +kernel
theorem dX6_root_20 : decode cX6_root 20 = .ok (.iload_n 1, 1) := by decide +kernel
theorem dX6_root_21 : decode cX6_root 21 = .ok (.bipush 11, 2) := by decide +kernel
theorem dX6_root_23 : decode cX6_root 23 = .ok (.irem, 1) := by decide +kernel
theorem dX6_root_24 : decode cX6_root 24 = .ok (.ireturn, 1) := by decide +kernel
theorem dX6_meets_0 : decode cX6_meets 0 = .ok (.iconst (-1), 1) := by decide +kernel
theorem dX6_meets_1 : decode cX6_meets 1 = .ok (.istore_n 2, 1) := by decide +kernel
theorem dX6_meets_2 : decode cX6_meets 2 = .ok (.iconst (-1), 1) := by decide +kernel
theorem dX6_meets_3 : decode cX6_meets 3 = .ok (.istore_n 3, 1) := by decide +kernel
theorem dX6_meets_4 : decode cX6_meets 4 = .ok (.iconst 0, 1) := by decide +kernel
theorem dX6_meets_5 : decode cX6_meets 5 = .ok (.istore 4, 2) := by decide +kernel
theorem dX6_meets_7 : decode cX6_meets 7 = .ok (.iload 4, 2) := by decide +kernel
theorem dX6_meets_9 : decode cX6_meets 9 = .ok (.bipush 10, 2) := by decide +kernel
theorem dX6_meets_11 : decode cX6_meets 11 = .ok (.if_icmp .ge 78, 3) := by decide +kernel
theorem dX6_meets_14 : decode cX6_meets 14 = .ok (.bipush 31, 2) := by decide +kernel
theorem dX6_meets_16 : decode cX6_meets 16 = .ok (.iload_n 1, 1) := by decide +kernel
theorem dX6_meets_17 : decode cX6_meets 17 = .ok (.imul, 1) := by decide +kernel
theorem dX6_meets_18 : decode cX6_meets 18 = .ok (.bipush 17, 2) := by decide +kernel
theorem dX6_meets_20 : decode cX6_meets 20 = .ok (.iadd, 1) := by decide +kernel
theorem dX6_meets_21 : decode cX6_meets 21 = .ok (.bipush 53, 2) := by decide +kernel
theorem dX6_meets_23 : decode cX6_meets 23 = .ok (.iload 4, 2) := by decide +kernel
theorem dX6_meets_25 : decode cX6_meets 25 = .ok (.imul, 1) := by decide +kernel
theorem dX6_meets_26 : decode cX6_meets 26 = .ok (.bipush 29, 2) := by decide +kernel
theorem dX6_meets_28 : decode cX6_meets 28 = .ok (.iadd, 1) := by decide +kernel
theorem dX6_meets_29 : decode cX6_meets 29 = .ok (.imul, 1) := by decide +kernel
theorem dX6_meets_30 : decode cX6_meets 30 = .ok (.sipush 997, 3) := by decide +kernel
theorem dX6_meets_33 : decode cX6_meets 33 = .ok (.irem, 1) := by decide +kernel
theorem dX6_meets_34 : decode cX6_meets 34 = .ok (.istore 5, 2) := by decide +kernel
theorem dX6_meets_36 : decode cX6_meets 36 = .ok (.aload_n 0, 1) := by decide +kernel
theorem dX6_meets_37 : decode cX6_meets 37 = .ok (.getfield 20, 3) := by decide +kernel
theorem dX6_meets_40 : decode cX6_meets 40 = .ok (.iload 4, 2) := by decide +kernel
theorem dX6_meets_42 : decode cX6_meets 42 = .ok (.baload, 1) := by decide +kernel
theorem dX6_meets_43 : decode cX6_meets 43 = .ok (.ifCond .eq 13, 3) := by decide +kernel
theorem dX6_meets_46 : decode cX6_meets 46 = .ok (.iload 5, 2) := by decide +kernel
theorem dX6_meets_48 : decode cX6_meets 48 = .ok (.iload_n 3, 1) := by decide +kernel
theorem dX6_meets_49 : decode cX6_meets 49 = .ok (.if_icmp .le 7, 3) := by decide +kernel
theorem dX6_meets_52 : decode cX6_meets 52 = .ok (.iconst 1, 1) := by decide +kernel
theorem dX6_meets_53 : decode cX6_meets 53 = .ok (.goto 4, 3) := by decide +kernel
theorem dX6_meets_56 : decode cX6_meets 56 = .ok (.iconst 0, 1) := by decide +kernel
theorem dX6_meets_57 : decode cX6_meets 57 = .ok (.istore 6, 2) := by decide +kernel
theorem dX6_meets_59 : decode cX6_meets 59 = .ok (.iload 6, 2) := by decide +kernel
theorem dX6_meets_61 : decode cX6_meets 61 = .ok (.ifCond .eq 8, 3) := by decide +kernel
theorem dX6_meets_64 : decode cX6_meets 64 = .ok (.iload 4, 2) := by decide +kernel
theorem dX6_meets_66 : decode cX6_meets 66 = .ok (.goto 4, 3) := by decide +kernel
theorem dX6_meets_69 : decode cX6_meets 69 = .ok (.iload_n 2, 1) := by decide +kernel
theorem dX6_meets_70 : decode cX6_meets 70 = .ok (.istore_n 2, 1) := by decide +kernel
theorem dX6_meets_71 : decode cX6_meets 71 = .ok (.iload 6, 2) := by decide +kernel
theorem dX6_meets_73 : decode cX6_meets 73 = .ok (.ifCond .eq 8, 3) := by decide +kernel
theorem dX6_meets_76 : decode cX6_meets 76 = .ok (.iload 5, 2) := by decide +kernel
theorem dX6_meets_78 : decode cX6_meets 78 = .ok (.goto 4, 3) := by decide +kernel
theorem dX6_meets_81 : decode cX6_meets 81 = .ok (.iload_n 3, 1) := by decide +kernel
theorem dX6_meets_82 : decode cX6_meets 82 = .ok (.istore_n 3, 1) := by decide +kernel
theorem dX6_meets_83 : decode cX6_meets 83 = .ok (.iinc 4 1, 3) := by decide +kernel
theorem dX6_meets_86 : decode cX6_meets 86 = .ok (.goto (-79), 3) := by decide +kernel
theorem dX6_meets_89 : decode cX6_meets 89 = .ok (.iload_n 2, 1) := by decide +kernel
theorem dX6_meets_90 : decode cX6_meets 90 = .ok (.ireturn, 1) := by decide +kernel
theorem dX6_wants_0 : decode cX6_wants 0 = .ok (.iload_n 1, 1) := by decide +kernel
theorem dX6_wants_1 : decode cX6_wants 1 = .ok (.bipush 11, 2) := by decide +kernel
theorem dX6_wants_3 : decode cX6_wants 3 = .ok (.irem, 1) := by decide +kernel
theorem dX6_wants_4 : decode cX6_wants 4 = .ok (.bipush 10, 2) := by decide +kernel
theorem dX6_wants_6 : decode cX6_wants 6 = .ok (.if_icmp .ne 15, 3) := by decide +kernel
theorem dX6_wants_9 : decode cX6_wants 9 = .ok (.aload_n 0, 1) := by decide +kernel
theorem dX6_wants_10 : decode cX6_wants 10 = .ok (.getfield 24, 3) := by decide +kernel
theorem dX6_wants_13 : decode cX6_wants 13 = .ok (.iload_n 1, 1) := by decide +kernel
theorem dX6_wants_14 : decode cX6_wants 14 = .ok (.bipush 11, 2) := by decide +kernel
theorem dX6_wants_16 : decode cX6_wants 16 = .ok (.idiv, 1) := by decide +kernel
theorem dX6_wants_17 : decode cX6_wants 17 = .ok (.iaload, 1) := by decide +kernel
theorem dX6_wants_18 : decode cX6_wants 18 = .ok (.goto 20, 3) := by decide +kernel
theorem dX6_wants_21 : decode cX6_wants 21 = .ok (.aload_n 0, 1) := by decide +kernel
theorem dX6_wants_22 : decode cX6_wants 22 = .ok (.getfield 27, 3) := by decide +kernel
theorem dX6_wants_25 : decode cX6_wants 25 = .ok (.bipush 10, 2) := by decide +kernel
theorem dX6_wants_27 : decode cX6_wants 27 = .ok (.iload_n 1, 1) := by decide +kernel
theorem dX6_wants_28 : decode cX6_wants 28 = .ok (.bipush 11, 2) := by decide +kernel
theorem dX6_wants_30 : decode cX6_wants 30 = .ok (.idiv, 1) := by decide +kernel
theorem dX6_wants_31 : decode cX6_wants 31 = .ok (.imul, 1) := by decide +kernel
theorem dX6_wants_32 : decode cX6_wants 32 = .ok (.iload_n 1, 1) := by decide +kernel
theorem dX6_wants_33 : decode cX6_wants 33 = .ok (.bipush 11, 2) := by decide +kernel
theorem dX6_wants_35 : decode cX6_wants 35 = .ok (.irem, 1) := by decide +kernel
theorem dX6_wants_36 : decode cX6_wants 36 = .ok (.iadd, 1) := by decide +kernel
theorem dX6_wants_37 : decode cX6_wants 37 = .ok (.iaload, 1) := by decide +kernel
theorem dX6_wants_38 : decode cX6_wants 38 = .ok (.istore_n 3, 1) := by decide +kernel
theorem dX6_wants_39 : decode cX6_wants 39 = .ok (.iload_n 3, 1) := by decide +kernel
theorem dX6_wants_40 : decode cX6_wants 40 = .ok (.iload_n 2, 1) := by decide +kernel
theorem dX6_wants_41 : decode cX6_wants 41 = .ok (.ishr, 1) := by decide +kernel
theorem dX6_wants_42 : decode cX6_wants 42 = .ok (.iconst 1, 1) := by decide +kernel
theorem dX6_wants_43 : decode cX6_wants 43 = .ok (.iand, 1) := by decide +kernel
theorem dX6_wants_44 : decode cX6_wants 44 = .ok (.iconst 1, 1) := by decide +kernel
theorem dX6_wants_45 : decode cX6_wants 45 = .ok (.if_icmp .ne 7, 3) := by decide +kernel
theorem dX6_wants_48 : decode cX6_wants 48 = .ok (.iconst 1, 1) := by decide +kernel
theorem dX6_wants_49 : decode cX6_wants 49 = .ok (.goto 4, 3) := by decide +kernel
theorem dX6_wants_52 : decode cX6_wants 52 = .ok (.iconst 0, 1) := by decide +kernel
theorem dX6_wants_53 : decode cX6_wants 53 = .ok (.ireturn, 1) := by decide +kernel
theorem dX6_graft_0 : decode cX6_graft 0 = .ok (.aload_n 0, 1) := by decide +kernel
theorem dX6_graft_1 : decode cX6_graft 1 = .ok (.iload_n 1, 1) := by decide +kernel
theorem dX6_graft_2 : decode cX6_graft 2 = .ok (.invokevirtual 65, 3) := by decide +kernel
theorem dX6_graft_5 : decode cX6_graft 5 = .ok (.istore_n 3, 1) := by decide +kernel
theorem dX6_graft_6 : decode cX6_graft 6 = .ok (.iload_n 3, 1) := by decide +kernel
theorem dX6_graft_7 : decode cX6_graft 7 = .ok (.iconst (-1), 1) := by decide +kernel
theorem dX6_graft_8 : decode cX6_graft 8 = .ok (.if_icmp .ne 7, 3) := by decide +kernel
theorem dX6_graft_11 : decode cX6_graft 11 = .ok (.iconst (-1), 1) := by decide +kernel
theorem dX6_graft_12 : decode cX6_graft 12 = .ok (.goto 4, 3) := by decide +kernel
theorem dX6_graft_15 : decode cX6_graft 15 = .ok (.iload_n 2, 1) := by decide +kernel
theorem dX6_graft_16 : decode cX6_graft 16 = .ok (.istore 4, 2) := by decide +kernel
theorem dX6_graft_18 : decode cX6_graft 18 = .ok (.iload 4, 2) := by decide +kernel
theorem dX6_graft_20 : decode cX6_graft 20 = .ok (.iconst (-1), 1) := by decide +kernel
theorem dX6_graft_21 : decode cX6_graft 21 = .ok (.if_icmp .eq 94, 3) := by decide +kernel
theorem dX6_graft_24 : decode cX6_graft 24 = .ok (.iload 4, 2) := by decide +kernel
theorem dX6_graft_26 : decode cX6_graft 26 = .ok (.iload_n 3, 1) := by decide +kernel
theorem dX6_graft_27 : decode cX6_graft 27 = .ok (.if_icmp .eq 88, 3) := by decide +kernel
theorem dX6_graft_30 : decode cX6_graft 30 = .ok (.bipush 10, 2) := by decide +kernel
theorem dX6_graft_32 : decode cX6_graft 32 = .ok (.iload_n 1, 1) := by decide +kernel
theorem dX6_graft_33 : decode cX6_graft 33 = .ok (.imul, 1) := by decide +kernel
theorem dX6_graft_34 : decode cX6_graft 34 = .ok (.iload 4, 2) := by decide +kernel
theorem dX6_graft_36 : decode cX6_graft 36 = .ok (.iadd, 1) := by decide +kernel
theorem dX6_graft_37 : decode cX6_graft 37 = .ok (.istore 5, 2) := by decide +kernel
theorem dX6_graft_39 : decode cX6_graft 39 = .ok (.aload_n 0, 1) := by decide +kernel
theorem dX6_graft_40 : decode cX6_graft 40 = .ok (.getfield 33, 3) := by decide +kernel
theorem dX6_graft_43 : decode cX6_graft 43 = .ok (.iload 5, 2) := by decide +kernel
theorem dX6_graft_45 : decode cX6_graft 45 = .ok (.iaload, 1) := by decide +kernel
theorem dX6_graft_46 : decode cX6_graft 46 = .ok (.iconst (-1), 1) := by decide +kernel
theorem dX6_graft_47 : decode cX6_graft 47 = .ok (.if_icmp .eq 7, 3) := by decide +kernel
theorem dX6_graft_50 : decode cX6_graft 50 = .ok (.iconst 1, 1) := by decide +kernel
theorem dX6_graft_51 : decode cX6_graft 51 = .ok (.goto 4, 3) := by decide +kernel
theorem dX6_graft_54 : decode cX6_graft 54 = .ok (.iconst 0, 1) := by decide +kernel
theorem dX6_graft_55 : decode cX6_graft 55 = .ok (.istore 6, 2) := by decide +kernel
theorem dX6_graft_57 : decode cX6_graft 57 = .ok (.aload_n 0, 1) := by decide +kernel
theorem dX6_graft_58 : decode cX6_graft 58 = .ok (.getfield 33, 3) := by decide +kernel
theorem dX6_graft_61 : decode cX6_graft 61 = .ok (.iload 5, 2) := by decide +kernel
theorem dX6_graft_63 : decode cX6_graft 63 = .ok (.iload 6, 2) := by decide +kernel
theorem dX6_graft_65 : decode cX6_graft 65 = .ok (.ifCond .eq 13, 3) := by decide +kernel
theorem dX6_graft_68 : decode cX6_graft 68 = .ok (.aload_n 0, 1) := by decide +kernel
theorem dX6_graft_69 : decode cX6_graft 69 = .ok (.getfield 33, 3) := by decide +kernel
theorem dX6_graft_72 : decode cX6_graft 72 = .ok (.iload 5, 2) := by decide +kernel
theorem dX6_graft_74 : decode cX6_graft 74 = .ok (.iaload, 1) := by decide +kernel
theorem dX6_graft_75 : decode cX6_graft 75 = .ok (.goto 10, 3) := by decide +kernel
theorem dX6_graft_78 : decode cX6_graft 78 = .ok (.aload_n 0, 1) := by decide +kernel
theorem dX6_graft_79 : decode cX6_graft 79 = .ok (.iload 4, 2) := by decide +kernel
theorem dX6_graft_81 : decode cX6_graft 81 = .ok (.iload_n 3, 1) := by decide +kernel
theorem dX6_graft_82 : decode cX6_graft 82 = .ok (.invokevirtual 68, 3) := by decide +kernel
theorem dX6_graft_85 : decode cX6_graft 85 = .ok (.iastore, 1) := by decide +kernel
theorem dX6_graft_86 : decode cX6_graft 86 = .ok (.aload_n 0, 1) := by decide +kernel
theorem dX6_graft_87 : decode cX6_graft 87 = .ok (.getfield 36, 3) := by decide +kernel
theorem dX6_graft_90 : decode cX6_graft 90 = .ok (.iload 5, 2) := by decide +kernel
theorem dX6_graft_92 : decode cX6_graft 92 = .ok (.iconst (-1), 1) := by decide +kernel
theorem dX6_graft_93 : decode cX6_graft 93 = .ok (.iastore, 1) := by decide +kernel
theorem dX6_graft_94 : decode cX6_graft 94 = .ok (.iload 6, 2) := by decide +kernel
theorem dX6_graft_96 : decode cX6_graft 96 = .ok (.ifCond .eq 7, 3) := by decide +kernel
theorem dX6_graft_99 : decode cX6_graft 99 = .ok (.iconst (-1), 1) := by decide +kernel
theorem dX6_graft_100 : decode cX6_graft 100 = .ok (.goto 10, 3) := by decide +kernel
theorem dX6_graft_103 : decode cX6_graft 103 = .ok (.aload_n 0, 1) := by decide +kernel
theorem dX6_graft_104 : decode cX6_graft 104 = .ok (.getfield 33, 3) := by decide +kernel
theorem dX6_graft_107 : decode cX6_graft 107 = .ok (.iload 5, 2) := by decide +kernel
theorem dX6_graft_109 : decode cX6_graft 109 = .ok (.iaload, 1) := by decide +kernel
theorem dX6_graft_110 : decode cX6_graft 110 = .ok (.istore 4, 2) := by decide +kernel
theorem dX6_graft_112 : decode cX6_graft 112 = .ok (.goto (-94), 3) := by decide +kernel
theorem dX6_graft_115 : decode cX6_graft 115 = .ok (.return_, 1) := by decide +kernel
theorem dX6_below_0 : decode cX6_below 0 = .ok (.iconst 0, 1) := by decide +kernel
theorem dX6_below_1 : decode cX6_below 1 = .ok (.istore_n 3, 1) := by decide +kernel
theorem dX6_below_2 : decode cX6_below 2 = .ok (.iconst 0, 1) := by decide +kernel
theorem dX6_below_3 : decode cX6_below 3 = .ok (.istore 4, 2) := by decide +kernel
theorem dX6_below_5 : decode cX6_below 5 = .ok (.iload 4, 2) := by decide +kernel
theorem dX6_below_7 : decode cX6_below 7 = .ok (.bipush 10, 2) := by decide +kernel
theorem dX6_below_9 : decode cX6_below 9 = .ok (.if_icmp .ge 36, 3) := by decide +kernel
theorem dX6_below_12 : decode cX6_below 12 = .ok (.iload_n 3, 1) := by decide +kernel
theorem dX6_below_13 : decode cX6_below 13 = .ok (.aload_n 0, 1) := by decide +kernel
theorem dX6_below_14 : decode cX6_below 14 = .ok (.getfield 33, 3) := by decide +kernel
theorem dX6_below_17 : decode cX6_below 17 = .ok (.bipush 10, 2) := by decide +kernel
theorem dX6_below_19 : decode cX6_below 19 = .ok (.iload_n 1, 1) := by decide +kernel
theorem dX6_below_20 : decode cX6_below 20 = .ok (.imul, 1) := by decide +kernel
theorem dX6_below_21 : decode cX6_below 21 = .ok (.iload 4, 2) := by decide +kernel
theorem dX6_below_23 : decode cX6_below 23 = .ok (.iadd, 1) := by decide +kernel
theorem dX6_below_24 : decode cX6_below 24 = .ok (.iaload, 1) := by decide +kernel
theorem dX6_below_25 : decode cX6_below 25 = .ok (.iload_n 2, 1) := by decide +kernel
theorem dX6_below_26 : decode cX6_below 26 = .ok (.if_icmp .ne 10, 3) := by decide +kernel
theorem dX6_below_29 : decode cX6_below 29 = .ok (.iconst 1, 1) := by decide +kernel
theorem dX6_below_30 : decode cX6_below 30 = .ok (.iload 4, 2) := by decide +kernel
theorem dX6_below_32 : decode cX6_below 32 = .ok (.ishl, 1) := by decide +kernel
theorem dX6_below_33 : decode cX6_below 33 = .ok (.goto 4, 3) := by decide +kernel
theorem dX6_below_36 : decode cX6_below 36 = .ok (.iconst 0, 1) := by decide +kernel
theorem dX6_below_37 : decode cX6_below 37 = .ok (.ior, 1) := by decide +kernel
theorem dX6_below_38 : decode cX6_below 38 = .ok (.istore_n 3, 1) := by decide +kernel
theorem dX6_below_39 : decode cX6_below 39 = .ok (.iinc 4 1, 3) := by decide +kernel
theorem dX6_below_42 : decode cX6_below 42 = .ok (.goto (-37), 3) := by decide +kernel
theorem dX6_below_45 : decode cX6_below 45 = .ok (.iload_n 3, 1) := by decide +kernel
theorem dX6_below_46 : decode cX6_below 46 = .ok (.ireturn, 1) := by decide +kernel
theorem dX6_looks_0 : decode cX6_looks 0 = .ok (.bipush 10, 2) := by decide +kernel
theorem dX6_looks_2 : decode cX6_looks 2 = .ok (.iload_n 1, 1) := by decide +kernel
theorem dX6_looks_3 : decode cX6_looks 3 = .ok (.imul, 1) := by decide +kernel
theorem dX6_looks_4 : decode cX6_looks 4 = .ok (.iload_n 2, 1) := by decide +kernel
theorem dX6_looks_5 : decode cX6_looks 5 = .ok (.iadd, 1) := by decide +kernel
theorem dX6_looks_6 : decode cX6_looks 6 = .ok (.istore_n 3, 1) := by decide +kernel
theorem dX6_looks_7 : decode cX6_looks 7 = .ok (.aload_n 0, 1) := by decide +kernel
theorem dX6_looks_8 : decode cX6_looks 8 = .ok (.getfield 33, 3) := by decide +kernel
theorem dX6_looks_11 : decode cX6_looks 11 = .ok (.iload_n 3, 1) := by decide +kernel
theorem dX6_looks_12 : decode cX6_looks 12 = .ok (.iaload, 1) := by decide +kernel
theorem dX6_looks_13 : decode cX6_looks 13 = .ok (.iconst (-1), 1) := by decide +kernel
theorem dX6_looks_14 : decode cX6_looks 14 = .ok (.if_icmp .eq 43, 3) := by decide +kernel
theorem dX6_looks_17 : decode cX6_looks 17 = .ok (.aload_n 0, 1) := by decide +kernel
theorem dX6_looks_18 : decode cX6_looks 18 = .ok (.getfield 36, 3) := by decide +kernel
theorem dX6_looks_21 : decode cX6_looks 21 = .ok (.iload_n 3, 1) := by decide +kernel
theorem dX6_looks_22 : decode cX6_looks 22 = .ok (.iaload, 1) := by decide +kernel
theorem dX6_looks_23 : decode cX6_looks 23 = .ok (.iconst (-1), 1) := by decide +kernel
theorem dX6_looks_24 : decode cX6_looks 24 = .ok (.if_icmp .ne 33, 3) := by decide +kernel
theorem dX6_looks_27 : decode cX6_looks 27 = .ok (.aload_n 0, 1) := by decide +kernel
theorem dX6_looks_28 : decode cX6_looks 28 = .ok (.iload_n 1, 1) := by decide +kernel
theorem dX6_looks_29 : decode cX6_looks 29 = .ok (.iload_n 2, 1) := by decide +kernel
theorem dX6_looks_30 : decode cX6_looks 30 = .ok (.invokevirtual 72, 3) := by decide +kernel
theorem dX6_looks_33 : decode cX6_looks 33 = .ok (.ifCond .ne 24, 3) := by decide +kernel
theorem dX6_looks_36 : decode cX6_looks 36 = .ok (.aload_n 0, 1) := by decide +kernel
theorem dX6_looks_37 : decode cX6_looks 37 = .ok (.iload_n 1, 1) := by decide +kernel
theorem dX6_looks_38 : decode cX6_looks 38 = .ok (.iload_n 2, 1) := by decide +kernel
theorem dX6_looks_39 : decode cX6_looks 39 = .ok (.invokevirtual 76, 3) := by decide +kernel
theorem dX6_looks_42 : decode cX6_looks 42 = .ok (.ifCond .ne 15, 3) := by decide +kernel
theorem dX6_looks_45 : decode cX6_looks 45 = .ok (.aload_n 0, 1) := by decide +kernel
theorem dX6_looks_46 : decode cX6_looks 46 = .ok (.getfield 36, 3) := by decide +kernel
theorem dX6_looks_49 : decode cX6_looks 49 = .ok (.iload_n 3, 1) := by decide +kernel
theorem dX6_looks_50 : decode cX6_looks 50 = .ok (.aload_n 0, 1) := by decide +kernel
theorem dX6_looks_51 : decode cX6_looks 51 = .ok (.getfield 79, 3) := by decide +kernel
theorem dX6_looks_54 : decode cX6_looks 54 = .ok (.iconst 3, 1) := by decide +kernel
theorem dX6_looks_55 : decode cX6_looks 55 = .ok (.iadd, 1) := by decide +kernel
theorem dX6_looks_56 : decode cX6_looks 56 = .ok (.iastore, 1) := by decide +kernel
theorem dX6_looks_57 : decode cX6_looks 57 = .ok (.return_, 1) := by decide +kernel
theorem dX6_buildsAnew_0 : decode cX6_buildsAnew 0 = .ok (.iconst 0, 1) := by decide +kernel
theorem dX6_buildsAnew_1 : decode cX6_buildsAnew 1 = .ok (.istore_n 1, 1) := by decide +kernel
theorem dX6_buildsAnew_2 : decode cX6_buildsAnew 2 = .ok (.iload_n 1, 1) := by decide +kernel
theorem dX6_buildsAnew_3 : decode cX6_buildsAnew 3 = .ok (.sipush 440, 3) := by decide +kernel
theorem dX6_buildsAnew_6 : decode cX6_buildsAnew 6 = .ok (.if_icmp .ge 23, 3) := by decide +kernel
theorem dX6_buildsAnew_9 : decode cX6_buildsAnew 9 = .ok (.aload_n 0, 1) := by decide +kernel
theorem dX6_buildsAnew_10 : decode cX6_buildsAnew 10 = .ok (.getfield 33, 3) := by decide +kernel
theorem dX6_buildsAnew_13 : decode cX6_buildsAnew 13 = .ok (.iload_n 1, 1) := by decide +kernel
theorem dX6_buildsAnew_14 : decode cX6_buildsAnew 14 = .ok (.iconst (-1), 1) := by decide +kernel
theorem dX6_buildsAnew_15 : decode cX6_buildsAnew 15 = .ok (.iastore, 1) := by decide +kernel
theorem dX6_buildsAnew_16 : decode cX6_buildsAnew 16 = .ok (.aload_n 0, 1) := by decide +kernel
theorem dX6_buildsAnew_17 : decode cX6_buildsAnew 17 = .ok (.getfield 36, 3) := by decide +kernel
theorem dX6_buildsAnew_20 : decode cX6_buildsAnew 20 = .ok (.iload_n 1, 1) := by decide +kernel
theorem dX6_buildsAnew_21 : decode cX6_buildsAnew 21 = .ok (.iconst (-1), 1) := by decide +kernel
theorem dX6_buildsAnew_22 : decode cX6_buildsAnew 22 = .ok (.iastore, 1) := by decide +kernel
theorem dX6_buildsAnew_23 : decode cX6_buildsAnew 23 = .ok (.iinc 1 1, 3) := by decide +kernel
theorem dX6_buildsAnew_26 : decode cX6_buildsAnew 26 = .ok (.goto (-24), 3) := by decide +kernel
theorem dX6_buildsAnew_29 : decode cX6_buildsAnew 29 = .ok (.iconst 0, 1) := by decide +kernel
theorem dX6_buildsAnew_30 : decode cX6_buildsAnew 30 = .ok (.istore_n 1, 1) := by decide +kernel
theorem dX6_buildsAnew_31 : decode cX6_buildsAnew 31 = .ok (.iload_n 1, 1) := by decide +kernel
theorem dX6_buildsAnew_32 : decode cX6_buildsAnew 32 = .ok (.bipush 44, 2) := by decide +kernel
theorem dX6_buildsAnew_34 : decode cX6_buildsAnew 34 = .ok (.if_icmp .ge 38, 3) := by decide +kernel
theorem dX6_buildsAnew_37 : decode cX6_buildsAnew 37 = .ok (.iconst 0, 1) := by decide +kernel
theorem dX6_buildsAnew_38 : decode cX6_buildsAnew 38 = .ok (.istore_n 2, 1) := by decide +kernel
theorem dX6_buildsAnew_39 : decode cX6_buildsAnew 39 = .ok (.iload_n 2, 1) := by decide +kernel
theorem dX6_buildsAnew_40 : decode cX6_buildsAnew 40 = .ok (.bipush 10, 2) := by decide +kernel
theorem dX6_buildsAnew_42 : decode cX6_buildsAnew 42 = .ok (.if_icmp .ge 24, 3) := by decide +kernel
theorem dX6_buildsAnew_45 : decode cX6_buildsAnew 45 = .ok (.aload_n 0, 1) := by decide +kernel
theorem dX6_buildsAnew_46 : decode cX6_buildsAnew 46 = .ok (.iload_n 1, 1) := by decide +kernel
theorem dX6_buildsAnew_47 : decode cX6_buildsAnew 47 = .ok (.iload_n 2, 1) := by decide +kernel
theorem dX6_buildsAnew_48 : decode cX6_buildsAnew 48 = .ok (.invokevirtual 72, 3) := by decide +kernel
theorem dX6_buildsAnew_51 : decode cX6_buildsAnew 51 = .ok (.ifCond .eq 9, 3) := by decide +kernel
theorem dX6_buildsAnew_54 : decode cX6_buildsAnew 54 = .ok (.aload_n 0, 1) := by decide +kernel
theorem dX6_buildsAnew_55 : decode cX6_buildsAnew 55 = .ok (.iload_n 1, 1) := by decide +kernel
theorem dX6_buildsAnew_56 : decode cX6_buildsAnew 56 = .ok (.iload_n 2, 1) := by decide +kernel
theorem dX6_buildsAnew_57 : decode cX6_buildsAnew 57 = .ok (.invokevirtual 82, 3) := by decide +kernel
theorem dX6_buildsAnew_60 : decode cX6_buildsAnew 60 = .ok (.iinc 2 1, 3) := by decide +kernel
theorem dX6_buildsAnew_63 : decode cX6_buildsAnew 63 = .ok (.goto (-24), 3) := by decide +kernel
theorem dX6_buildsAnew_66 : decode cX6_buildsAnew 66 = .ok (.iinc 1 1, 3) := by decide +kernel
theorem dX6_buildsAnew_69 : decode cX6_buildsAnew 69 = .ok (.goto (-38), 3) := by decide +kernel
theorem dX6_buildsAnew_72 : decode cX6_buildsAnew 72 = .ok (.return_, 1) := by decide +kernel
theorem dX6_setLink_0 : decode cX6_setLink 0 = .ok (.aload_n 0, 1) := by decide +kernel
theorem dX6_setLink_1 : decode cX6_setLink 1 = .ok (.iload_n 1, 1) := by decide +kernel
theorem dX6_setLink_2 : decode cX6_setLink 2 = .ok (.invokestatic 86, 3) := by decide +kernel
theorem dX6_setLink_5 : decode cX6_setLink 5 = .ok (.ifCond .eq 10, 3) := by decide +kernel
theorem dX6_setLink_8 : decode cX6_setLink 8 = .ok (.iload_n 2, 1) := by decide +kernel
theorem dX6_setLink_9 : decode cX6_setLink 9 = .ok (.invokestatic 86, 3) := by decide +kernel
theorem dX6_setLink_12 : decode cX6_setLink 12 = .ok (.ifCond .ne 7, 3) := by decide +kernel
theorem dX6_setLink_15 : decode cX6_setLink 15 = .ok (.iconst 1, 1) := by decide +kernel
theorem dX6_setLink_16 : decode cX6_setLink 16 = .ok (.goto 23, 3) := by decide +kernel
theorem dX6_setLink_19 : decode cX6_setLink 19 = .ok (.iload_n 1, 1) := by decide +kernel
theorem dX6_setLink_20 : decode cX6_setLink 20 = .ok (.iload_n 2, 1) := by decide +kernel
theorem dX6_setLink_21 : decode cX6_setLink 21 = .ok (.if_icmp .eq 13, 3) := by decide +kernel
theorem dX6_setLink_24 : decode cX6_setLink 24 = .ok (.iload_n 3, 1) := by decide +kernel
theorem dX6_setLink_25 : decode cX6_setLink 25 = .ok (.ifCond .lt 9, 3) := by decide +kernel
theorem dX6_setLink_28 : decode cX6_setLink 28 = .ok (.iload_n 3, 1) := by decide +kernel
theorem dX6_setLink_29 : decode cX6_setLink 29 = .ok (.bipush 20, 2) := by decide +kernel
theorem dX6_setLink_31 : decode cX6_setLink 31 = .ok (.if_icmp .le 7, 3) := by decide +kernel
theorem dX6_setLink_34 : decode cX6_setLink 34 = .ok (.iconst 2, 1) := by decide +kernel
theorem dX6_setLink_35 : decode cX6_setLink 35 = .ok (.goto 4, 3) := by decide +kernel
theorem dX6_setLink_38 : decode cX6_setLink 38 = .ok (.iconst 0, 1) := by decide +kernel
theorem dX6_setLink_39 : decode cX6_setLink 39 = .ok (.invokevirtual 90, 3) := by decide +kernel
theorem dX6_setLink_42 : decode cX6_setLink 42 = .ok (.ifCond .ne 5, 3) := by decide +kernel
theorem dX6_setLink_45 : decode cX6_setLink 45 = .ok (.iconst 0, 1) := by decide +kernel
theorem dX6_setLink_46 : decode cX6_setLink 46 = .ok (.ireturn, 1) := by decide +kernel
theorem dX6_setLink_47 : decode cX6_setLink 47 = .ok (.aload_n 0, 1) := by decide +kernel
theorem dX6_setLink_48 : decode cX6_setLink 48 = .ok (.getfield 13, 3) := by decide +kernel
theorem dX6_setLink_51 : decode cX6_setLink 51 = .ok (.bipush 10, 2) := by decide +kernel
theorem dX6_setLink_53 : decode cX6_setLink 53 = .ok (.iload_n 1, 1) := by decide +kernel
theorem dX6_setLink_54 : decode cX6_setLink 54 = .ok (.imul, 1) := by decide +kernel
theorem dX6_setLink_55 : decode cX6_setLink 55 = .ok (.iload_n 2, 1) := by decide +kernel
theorem dX6_setLink_56 : decode cX6_setLink 56 = .ok (.iadd, 1) := by decide +kernel
theorem dX6_setLink_57 : decode cX6_setLink 57 = .ok (.iaload, 1) := by decide +kernel
theorem dX6_setLink_58 : decode cX6_setLink 58 = .ok (.istore 4, 2) := by decide +kernel
theorem dX6_setLink_60 : decode cX6_setLink 60 = .ok (.iload 4, 2) := by decide +kernel
theorem dX6_setLink_62 : decode cX6_setLink 62 = .ok (.iload_n 3, 1) := by decide +kernel
theorem dX6_setLink_63 : decode cX6_setLink 63 = .ok (.if_icmp .eq 35, 3) := by decide +kernel
theorem dX6_setLink_66 : decode cX6_setLink 66 = .ok (.aload_n 0, 1) := by decide +kernel
theorem dX6_setLink_67 : decode cX6_setLink 67 = .ok (.getfield 13, 3) := by decide +kernel
theorem dX6_setLink_70 : decode cX6_setLink 70 = .ok (.bipush 10, 2) := by decide +kernel
theorem dX6_setLink_72 : decode cX6_setLink 72 = .ok (.iload_n 1, 1) := by decide +kernel
theorem dX6_setLink_73 : decode cX6_setLink 73 = .ok (.imul, 1) := by decide +kernel
theorem dX6_setLink_74 : decode cX6_setLink 74 = .ok (.iload_n 2, 1) := by decide +kernel
theorem dX6_setLink_75 : decode cX6_setLink 75 = .ok (.iadd, 1) := by decide +kernel
theorem dX6_setLink_76 : decode cX6_setLink 76 = .ok (.iload_n 3, 1) := by decide +kernel
theorem dX6_setLink_77 : decode cX6_setLink 77 = .ok (.iastore, 1) := by decide +kernel
theorem dX6_setLink_78 : decode cX6_setLink 78 = .ok (.aload_n 0, 1) := by decide +kernel
theorem dX6_setLink_79 : decode cX6_setLink 79 = .ok (.getfield 13, 3) := by decide +kernel
theorem dX6_setLink_82 : decode cX6_setLink 82 = .ok (.bipush 10, 2) := by decide +kernel
theorem dX6_setLink_84 : decode cX6_setLink 84 = .ok (.iload_n 2, 1) := by decide +kernel
theorem dX6_setLink_85 : decode cX6_setLink 85 = .ok (.imul, 1) := by decide +kernel
theorem dX6_setLink_86 : decode cX6_setLink 86 = .ok (.iload_n 1, 1) := by decide +kernel
theorem dX6_setLink_87 : decode cX6_setLink 87 = .ok (.iadd, 1) := by decide +kernel
theorem dX6_setLink_88 : decode cX6_setLink 88 = .ok (.iload_n 3, 1) := by decide +kernel
theorem dX6_setLink_89 : decode cX6_setLink 89 = .ok (.iastore, 1) := by decide +kernel
theorem dX6_setLink_90 : decode cX6_setLink 90 = .ok (.aload_n 0, 1) := by decide +kernel
theorem dX6_setLink_91 : decode cX6_setLink 91 = .ok (.invokevirtual 54, 3) := by decide +kernel
theorem dX6_setLink_94 : decode cX6_setLink 94 = .ok (.aload_n 0, 1) := by decide +kernel
theorem dX6_setLink_95 : decode cX6_setLink 95 = .ok (.invokevirtual 93, 3) := by decide +kernel
theorem dX6_setLink_98 : decode cX6_setLink 98 = .ok (.iload 4, 2) := by decide +kernel
theorem dX6_setLink_100 : decode cX6_setLink 100 = .ok (.ireturn, 1) := by decide +kernel
theorem dX6_setCandidate_0 : decode cX6_setCandidate 0 = .ok (.aload_n 0, 1) := by decide +kernel
theorem dX6_setCandidate_1 : decode cX6_setCandidate 1 = .ok (.iload_n 1, 1) := by decide +kernel
theorem dX6_setCandidate_2 : decode cX6_setCandidate 2 = .ok (.invokestatic 86, 3) := by decide +kernel
theorem dX6_setCandidate_5 : decode cX6_setCandidate 5 = .ok (.ifCond .eq 7, 3) := by decide +kernel
theorem dX6_setCandidate_8 : decode cX6_setCandidate 8 = .ok (.iconst 0, 1) := by decide +kernel
theorem dX6_setCandidate_9 : decode cX6_setCandidate 9 = .ok (.goto 4, 3) := by decide +kernel
theorem dX6_setCandidate_12 : decode cX6_setCandidate 12 = .ok (.iconst 1, 1) := by decide +kernel
theorem dX6_setCandidate_13 : decode cX6_setCandidate 13 = .ok (.invokevirtual 90, 3) := by decide +kernel
theorem dX6_setCandidate_16 : decode cX6_setCandidate 16 = .ok (.ifCond .eq 13, 3) := by decide +kernel
theorem dX6_setCandidate_19 : decode cX6_setCandidate 19 = .ok (.aload_n 0, 1) := by decide +kernel
theorem dX6_setCandidate_20 : decode cX6_setCandidate 20 = .ok (.getfield 20, 3) := by decide +kernel
theorem dX6_setCandidate_23 : decode cX6_setCandidate 23 = .ok (.iload_n 1, 1) := by decide +kernel
theorem dX6_setCandidate_24 : decode cX6_setCandidate 24 = .ok (.baload, 1) := by decide +kernel
theorem dX6_setCandidate_25 : decode cX6_setCandidate 25 = .ok (.iload_n 2, 1) := by decide +kernel
theorem dX6_setCandidate_26 : decode cX6_setCandidate 26 = .ok (.if_icmp .ne 5, 3) := by decide +kernel
theorem dX6_setCandidate_29 : decode cX6_setCandidate 29 = .ok (.iconst 0, 1) := by decide +kernel
theorem dX6_setCandidate_30 : decode cX6_setCandidate 30 = .ok (.ireturn, 1) := by decide +kernel
theorem dX6_setCandidate_31 : decode cX6_setCandidate 31 = .ok (.aload_n 0, 1) := by decide +kernel
theorem dX6_setCandidate_32 : decode cX6_setCandidate 32 = .ok (.getfield 20, 3) := by decide +kernel
theorem dX6_setCandidate_35 : decode cX6_setCandidate 35 = .ok (.iload_n 1, 1) := by decide +kernel
theorem dX6_setCandidate_36 : decode cX6_setCandidate 36 = .ok (.iload_n 2, 1) := by decide +kernel
theorem dX6_setCandidate_37 : decode cX6_setCandidate 37 = .ok (.bastore, 1) := by decide +kernel
theorem dX6_setCandidate_38 : decode cX6_setCandidate 38 = .ok (.aload_n 0, 1) := by decide +kernel
theorem dX6_setCandidate_39 : decode cX6_setCandidate 39 = .ok (.invokevirtual 93, 3) := by decide +kernel
theorem dX6_setCandidate_42 : decode cX6_setCandidate 42 = .ok (.iconst 1, 1) := by decide +kernel
theorem dX6_setCandidate_43 : decode cX6_setCandidate 43 = .ok (.ireturn, 1) := by decide +kernel
theorem dX6_setLimit_0 : decode cX6_setLimit 0 = .ok (.aload_n 0, 1) := by decide +kernel
theorem dX6_setLimit_1 : decode cX6_setLimit 1 = .ok (.iload_n 1, 1) := by decide +kernel
theorem dX6_setLimit_2 : decode cX6_setLimit 2 = .ok (.iconst 1, 1) := by decide +kernel
theorem dX6_setLimit_3 : decode cX6_setLimit 3 = .ok (.if_icmp .lt 9, 3) := by decide +kernel
theorem dX6_setLimit_6 : decode cX6_setLimit 6 = .ok (.iload_n 1, 1) := by decide +kernel
theorem dX6_setLimit_7 : decode cX6_setLimit 7 = .ok (.bipush 100, 2) := by decide +kernel
theorem dX6_setLimit_9 : decode cX6_setLimit 9 = .ok (.if_icmp .le 7, 3) := by decide +kernel
theorem dX6_setLimit_12 : decode cX6_setLimit 12 = .ok (.iconst 1, 1) := by decide +kernel
theorem dX6_setLimit_13 : decode cX6_setLimit 13 = .ok (.goto 4, 3) := by decide +kernel
theorem dX6_setLimit_16 : decode cX6_setLimit 16 = .ok (.iconst 0, 1) := by decide +kernel
theorem dX6_setLimit_17 : decode cX6_setLimit 17 = .ok (.invokevirtual 90, 3) := by decide +kernel
theorem dX6_setLimit_20 : decode cX6_setLimit 20 = .ok (.ifCond .ne 5, 3) := by decide +kernel
theorem dX6_setLimit_23 : decode cX6_setLimit 23 = .ok (.iconst 0, 1) := by decide +kernel
theorem dX6_setLimit_24 : decode cX6_setLimit 24 = .ok (.ireturn, 1) := by decide +kernel
theorem dX6_setLimit_25 : decode cX6_setLimit 25 = .ok (.aload_n 0, 1) := by decide +kernel
theorem dX6_setLimit_26 : decode cX6_setLimit 26 = .ok (.getfield 7, 3) := by decide +kernel
theorem dX6_setLimit_29 : decode cX6_setLimit 29 = .ok (.istore_n 2, 1) := by decide +kernel
theorem dX6_setLimit_30 : decode cX6_setLimit 30 = .ok (.aload_n 0, 1) := by decide +kernel
theorem dX6_setLimit_31 : decode cX6_setLimit 31 = .ok (.iload_n 1, 1) := by decide +kernel
theorem dX6_setLimit_32 : decode cX6_setLimit 32 = .ok (.putfield 7, 3) := by decide +kernel
theorem dX6_setLimit_35 : decode cX6_setLimit 35 = .ok (.iload_n 2, 1) := by decide +kernel
theorem dX6_setLimit_36 : decode cX6_setLimit 36 = .ok (.ireturn, 1) := by decide +kernel
theorem dX6_distance_0 : decode cX6_distance 0 = .ok (.aload_n 0, 1) := by decide +kernel
theorem dX6_distance_1 : decode cX6_distance 1 = .ok (.iload_n 1, 1) := by decide +kernel
theorem dX6_distance_2 : decode cX6_distance 2 = .ok (.invokestatic 86, 3) := by decide +kernel
theorem dX6_distance_5 : decode cX6_distance 5 = .ok (.ifCond .eq 14, 3) := by decide +kernel
theorem dX6_distance_8 : decode cX6_distance 8 = .ok (.iload_n 2, 1) := by decide +kernel
theorem dX6_distance_9 : decode cX6_distance 9 = .ok (.invokestatic 86, 3) := by decide +kernel
theorem dX6_distance_12 : decode cX6_distance 12 = .ok (.ifCond .eq 7, 3) := by decide +kernel
theorem dX6_distance_15 : decode cX6_distance 15 = .ok (.iconst 0, 1) := by decide +kernel
theorem dX6_distance_16 : decode cX6_distance 16 = .ok (.goto 4, 3) := by decide +kernel
theorem dX6_distance_19 : decode cX6_distance 19 = .ok (.iconst 1, 1) := by decide +kernel
theorem dX6_distance_20 : decode cX6_distance 20 = .ok (.invokevirtual 90, 3) := by decide +kernel
theorem dX6_distance_23 : decode cX6_distance 23 = .ok (.ifCond .ne 5, 3) := by decide +kernel
theorem dX6_distance_26 : decode cX6_distance 26 = .ok (.iconst 0, 1) := by decide +kernel
theorem dX6_distance_27 : decode cX6_distance 27 = .ok (.ireturn, 1) := by decide +kernel
theorem dX6_distance_28 : decode cX6_distance 28 = .ok (.aload_n 0, 1) := by decide +kernel
theorem dX6_distance_29 : decode cX6_distance 29 = .ok (.getfield 17, 3) := by decide +kernel
theorem dX6_distance_32 : decode cX6_distance 32 = .ok (.bipush 10, 2) := by decide +kernel
theorem dX6_distance_34 : decode cX6_distance 34 = .ok (.iload_n 1, 1) := by decide +kernel
theorem dX6_distance_35 : decode cX6_distance 35 = .ok (.imul, 1) := by decide +kernel
theorem dX6_distance_36 : decode cX6_distance 36 = .ok (.iload_n 2, 1) := by decide +kernel
theorem dX6_distance_37 : decode cX6_distance 37 = .ok (.iadd, 1) := by decide +kernel
theorem dX6_distance_38 : decode cX6_distance 38 = .ok (.iaload, 1) := by decide +kernel
theorem dX6_distance_39 : decode cX6_distance 39 = .ok (.istore_n 3, 1) := by decide +kernel
theorem dX6_distance_40 : decode cX6_distance 40 = .ok (.iload_n 3, 1) := by decide +kernel
theorem dX6_distance_41 : decode cX6_distance 41 = .ok (.ldc 60, 2) := by decide +kernel
theorem dX6_distance_43 : decode cX6_distance 43 = .ok (.if_icmp .ge 7, 3) := by decide +kernel
theorem dX6_distance_46 : decode cX6_distance 46 = .ok (.iload_n 3, 1) := by decide +kernel
theorem dX6_distance_47 : decode cX6_distance 47 = .ok (.goto 4, 3) := by decide +kernel
theorem dX6_distance_50 : decode cX6_distance 50 = .ok (.iconst (-1), 1) := by decide +kernel
theorem dX6_distance_51 : decode cX6_distance 51 = .ok (.ireturn, 1) := by decide +kernel
theorem dX6_nextHop_0 : decode cX6_nextHop 0 = .ok (.aload_n 0, 1) := by decide +kernel
theorem dX6_nextHop_1 : decode cX6_nextHop 1 = .ok (.iload_n 1, 1) := by decide +kernel
theorem dX6_nextHop_2 : decode cX6_nextHop 2 = .ok (.invokestatic 86, 3) := by decide +kernel
theorem dX6_nextHop_5 : decode cX6_nextHop 5 = .ok (.ifCond .eq 14, 3) := by decide +kernel
theorem dX6_nextHop_8 : decode cX6_nextHop 8 = .ok (.iload_n 2, 1) := by decide +kernel
theorem dX6_nextHop_9 : decode cX6_nextHop 9 = .ok (.invokestatic 86, 3) := by decide +kernel
theorem dX6_nextHop_12 : decode cX6_nextHop 12 = .ok (.ifCond .eq 7, 3) := by decide +kernel
theorem dX6_nextHop_15 : decode cX6_nextHop 15 = .ok (.iconst 0, 1) := by decide +kernel
theorem dX6_nextHop_16 : decode cX6_nextHop 16 = .ok (.goto 4, 3) := by decide +kernel
theorem dX6_nextHop_19 : decode cX6_nextHop 19 = .ok (.iconst 1, 1) := by decide +kernel
theorem dX6_nextHop_20 : decode cX6_nextHop 20 = .ok (.invokevirtual 90, 3) := by decide +kernel
theorem dX6_nextHop_23 : decode cX6_nextHop 23 = .ok (.ifCond .eq 12, 3) := by decide +kernel
theorem dX6_nextHop_26 : decode cX6_nextHop 26 = .ok (.aload_n 0, 1) := by decide +kernel
theorem dX6_nextHop_27 : decode cX6_nextHop 27 = .ok (.iload_n 1, 1) := by decide +kernel
theorem dX6_nextHop_28 : decode cX6_nextHop 28 = .ok (.iload_n 2, 1) := by decide +kernel
theorem dX6_nextHop_29 : decode cX6_nextHop 29 = .ok (.invokevirtual 68, 3) := by decide +kernel
theorem dX6_nextHop_32 : decode cX6_nextHop 32 = .ok (.goto 4, 3) := by decide +kernel
theorem dX6_nextHop_35 : decode cX6_nextHop 35 = .ok (.iconst 0, 1) := by decide +kernel
theorem dX6_nextHop_36 : decode cX6_nextHop 36 = .ok (.ireturn, 1) := by decide +kernel
theorem dX6_rendezvous_0 : decode cX6_rendezvous 0 = .ok (.aload_n 0, 1) := by decide +kernel
theorem dX6_rendezvous_1 : decode cX6_rendezvous 1 = .ok (.iload_n 1, 1) := by decide +kernel
theorem dX6_rendezvous_2 : decode cX6_rendezvous 2 = .ok (.invokestatic 96, 3) := by decide +kernel
theorem dX6_rendezvous_5 : decode cX6_rendezvous 5 = .ok (.ifCond .eq 7, 3) := by decide +kernel
theorem dX6_rendezvous_8 : decode cX6_rendezvous 8 = .ok (.iconst 0, 1) := by decide +kernel
theorem dX6_rendezvous_9 : decode cX6_rendezvous 9 = .ok (.goto 4, 3) := by decide +kernel
theorem dX6_rendezvous_12 : decode cX6_rendezvous 12 = .ok (.iconst 1, 1) := by decide +kernel
theorem dX6_rendezvous_13 : decode cX6_rendezvous 13 = .ok (.invokevirtual 90, 3) := by decide +kernel
theorem dX6_rendezvous_16 : decode cX6_rendezvous 16 = .ok (.ifCond .eq 11, 3) := by decide +kernel
theorem dX6_rendezvous_19 : decode cX6_rendezvous 19 = .ok (.aload_n 0, 1) := by decide +kernel
theorem dX6_rendezvous_20 : decode cX6_rendezvous 20 = .ok (.iload_n 1, 1) := by decide +kernel
theorem dX6_rendezvous_21 : decode cX6_rendezvous 21 = .ok (.invokevirtual 61, 3) := by decide +kernel
theorem dX6_rendezvous_24 : decode cX6_rendezvous 24 = .ok (.goto 4, 3) := by decide +kernel
theorem dX6_rendezvous_27 : decode cX6_rendezvous 27 = .ok (.iconst 0, 1) := by decide +kernel
theorem dX6_rendezvous_28 : decode cX6_rendezvous 28 = .ok (.ireturn, 1) := by decide +kernel
theorem dX6_many_0 : decode cX6_many 0 = .ok (.iconst 0, 1) := by decide +kernel
theorem dX6_many_1 : decode cX6_many 1 = .ok (.istore_n 1, 1) := by decide +kernel
theorem dX6_many_2 : decode cX6_many 2 = .ok (.iconst 0, 1) := by decide +kernel
theorem dX6_many_3 : decode cX6_many 3 = .ok (.istore_n 2, 1) := by decide +kernel
theorem dX6_many_4 : decode cX6_many 4 = .ok (.iload_n 2, 1) := by decide +kernel
theorem dX6_many_5 : decode cX6_many 5 = .ok (.bipush 10, 2) := by decide +kernel
theorem dX6_many_7 : decode cX6_many 7 = .ok (.if_icmp .ge 17, 3) := by decide +kernel
theorem dX6_many_10 : decode cX6_many 10 = .ok (.iload_n 1, 1) := by decide +kernel
theorem dX6_many_11 : decode cX6_many 11 = .ok (.iload_n 0, 1) := by decide +kernel
theorem dX6_many_12 : decode cX6_many 12 = .ok (.iload_n 2, 1) := by decide +kernel
theorem dX6_many_13 : decode cX6_many 13 = .ok (.ishr, 1) := by decide +kernel
theorem dX6_many_14 : decode cX6_many 14 = .ok (.iconst 1, 1) := by decide +kernel
theorem dX6_many_15 : decode cX6_many 15 = .ok (.iand, 1) := by decide +kernel
theorem dX6_many_16 : decode cX6_many 16 = .ok (.iadd, 1) := by decide +kernel
theorem dX6_many_17 : decode cX6_many 17 = .ok (.istore_n 1, 1) := by decide +kernel
theorem dX6_many_18 : decode cX6_many 18 = .ok (.iinc 2 1, 3) := by decide +kernel
theorem dX6_many_21 : decode cX6_many 21 = .ok (.goto (-17), 3) := by decide +kernel
theorem dX6_many_24 : decode cX6_many 24 = .ok (.iload_n 1, 1) := by decide +kernel
theorem dX6_many_25 : decode cX6_many 25 = .ok (.ireturn, 1) := by decide +kernel
theorem dX6_isMember_0 : decode cX6_isMember 0 = .ok (.aload_n 0, 1) := by decide +kernel
theorem dX6_isMember_1 : decode cX6_isMember 1 = .ok (.getfield 24, 3) := by decide +kernel
theorem dX6_isMember_4 : decode cX6_isMember 4 = .ok (.iload_n 2, 1) := by decide +kernel
theorem dX6_isMember_5 : decode cX6_isMember 5 = .ok (.iaload, 1) := by decide +kernel
theorem dX6_isMember_6 : decode cX6_isMember 6 = .ok (.iload_n 1, 1) := by decide +kernel
theorem dX6_isMember_7 : decode cX6_isMember 7 = .ok (.ishr, 1) := by decide +kernel
theorem dX6_isMember_8 : decode cX6_isMember 8 = .ok (.iconst 1, 1) := by decide +kernel
theorem dX6_isMember_9 : decode cX6_isMember 9 = .ok (.iand, 1) := by decide +kernel
theorem dX6_isMember_10 : decode cX6_isMember 10 = .ok (.iconst 1, 1) := by decide +kernel
theorem dX6_isMember_11 : decode cX6_isMember 11 = .ok (.if_icmp .ne 7, 3) := by decide +kernel
theorem dX6_isMember_14 : decode cX6_isMember 14 = .ok (.iconst 1, 1) := by decide +kernel
theorem dX6_isMember_15 : decode cX6_isMember 15 = .ok (.goto 4, 3) := by decide +kernel
theorem dX6_isMember_18 : decode cX6_isMember 18 = .ok (.iconst 0, 1) := by decide +kernel
theorem dX6_isMember_19 : decode cX6_isMember 19 = .ok (.ireturn, 1) := by decide +kernel
theorem dX6_join_0 : decode cX6_join 0 = .ok (.aload_n 0, 1) := by decide +kernel
theorem dX6_join_1 : decode cX6_join 1 = .ok (.iload_n 1, 1) := by decide +kernel
theorem dX6_join_2 : decode cX6_join 2 = .ok (.invokestatic 86, 3) := by decide +kernel
theorem dX6_join_5 : decode cX6_join 5 = .ok (.ifCond .eq 10, 3) := by decide +kernel
theorem dX6_join_8 : decode cX6_join 8 = .ok (.iload_n 2, 1) := by decide +kernel
theorem dX6_join_9 : decode cX6_join 9 = .ok (.invokestatic 96, 3) := by decide +kernel
theorem dX6_join_12 : decode cX6_join 12 = .ok (.ifCond .ne 7, 3) := by decide +kernel
theorem dX6_join_15 : decode cX6_join 15 = .ok (.iconst 1, 1) := by decide +kernel
theorem dX6_join_16 : decode cX6_join 16 = .ok (.goto 17, 3) := by decide +kernel
theorem dX6_join_19 : decode cX6_join 19 = .ok (.aload_n 0, 1) := by decide +kernel
theorem dX6_join_20 : decode cX6_join 20 = .ok (.iload_n 1, 1) := by decide +kernel
theorem dX6_join_21 : decode cX6_join 21 = .ok (.iload_n 2, 1) := by decide +kernel
theorem dX6_join_22 : decode cX6_join 22 = .ok (.invokevirtual 99, 3) := by decide +kernel
theorem dX6_join_25 : decode cX6_join 25 = .ok (.ifCond .eq 7, 3) := by decide +kernel
theorem dX6_join_28 : decode cX6_join 28 = .ok (.iconst 2, 1) := by decide +kernel
theorem dX6_join_29 : decode cX6_join 29 = .ok (.goto 4, 3) := by decide +kernel
theorem dX6_join_32 : decode cX6_join 32 = .ok (.iconst 0, 1) := by decide +kernel
theorem dX6_join_33 : decode cX6_join 33 = .ok (.invokevirtual 90, 3) := by decide +kernel
theorem dX6_join_36 : decode cX6_join 36 = .ok (.ifCond .ne 5, 3) := by decide +kernel
theorem dX6_join_39 : decode cX6_join 39 = .ok (.iconst 0, 1) := by decide +kernel
theorem dX6_join_40 : decode cX6_join 40 = .ok (.ireturn, 1) := by decide +kernel
theorem dX6_join_41 : decode cX6_join 41 = .ok (.aload_n 0, 1) := by decide +kernel
theorem dX6_join_42 : decode cX6_join 42 = .ok (.getfield 24, 3) := by decide +kernel
theorem dX6_join_45 : decode cX6_join 45 = .ok (.iload_n 2, 1) := by decide +kernel
theorem dX6_join_46 : decode cX6_join 46 = .ok (.dup2, 1) := by decide +kernel
theorem dX6_join_47 : decode cX6_join 47 = .ok (.iaload, 1) := by decide +kernel
theorem dX6_join_48 : decode cX6_join 48 = .ok (.iconst 1, 1) := by decide +kernel
theorem dX6_join_49 : decode cX6_join 49 = .ok (.iload_n 1, 1) := by decide +kernel
theorem dX6_join_50 : decode cX6_join 50 = .ok (.ishl, 1) := by decide +kernel
theorem dX6_join_51 : decode cX6_join 51 = .ok (.ior, 1) := by decide +kernel
theorem dX6_join_52 : decode cX6_join 52 = .ok (.iastore, 1) := by decide +kernel
theorem dX6_join_53 : decode cX6_join 53 = .ok (.aload_n 0, 1) := by decide +kernel
theorem dX6_join_54 : decode cX6_join 54 = .ok (.bipush 11, 2) := by decide +kernel
theorem dX6_join_56 : decode cX6_join 56 = .ok (.iload_n 2, 1) := by decide +kernel
theorem dX6_join_57 : decode cX6_join 57 = .ok (.imul, 1) := by decide +kernel
theorem dX6_join_58 : decode cX6_join 58 = .ok (.bipush 10, 2) := by decide +kernel
theorem dX6_join_60 : decode cX6_join 60 = .ok (.iadd, 1) := by decide +kernel
theorem dX6_join_61 : decode cX6_join 61 = .ok (.iload_n 1, 1) := by decide +kernel
theorem dX6_join_62 : decode cX6_join 62 = .ok (.invokevirtual 82, 3) := by decide +kernel
theorem dX6_join_65 : decode cX6_join 65 = .ok (.aload_n 0, 1) := by decide +kernel
theorem dX6_join_66 : decode cX6_join 66 = .ok (.getfield 24, 3) := by decide +kernel
theorem dX6_join_69 : decode cX6_join 69 = .ok (.iload_n 2, 1) := by decide +kernel
theorem dX6_join_70 : decode cX6_join 70 = .ok (.iaload, 1) := by decide +kernel
theorem dX6_join_71 : decode cX6_join 71 = .ok (.invokestatic 102, 3) := by decide +kernel
theorem dX6_join_74 : decode cX6_join 74 = .ok (.ireturn, 1) := by decide +kernel
theorem dX6_leave_0 : decode cX6_leave 0 = .ok (.aload_n 0, 1) := by decide +kernel
theorem dX6_leave_1 : decode cX6_leave 1 = .ok (.iload_n 1, 1) := by decide +kernel
theorem dX6_leave_2 : decode cX6_leave 2 = .ok (.invokestatic 86, 3) := by decide +kernel
theorem dX6_leave_5 : decode cX6_leave 5 = .ok (.ifCond .eq 10, 3) := by decide +kernel
theorem dX6_leave_8 : decode cX6_leave 8 = .ok (.iload_n 2, 1) := by decide +kernel
theorem dX6_leave_9 : decode cX6_leave 9 = .ok (.invokestatic 96, 3) := by decide +kernel
theorem dX6_leave_12 : decode cX6_leave 12 = .ok (.ifCond .ne 7, 3) := by decide +kernel
theorem dX6_leave_15 : decode cX6_leave 15 = .ok (.iconst 1, 1) := by decide +kernel
theorem dX6_leave_16 : decode cX6_leave 16 = .ok (.goto 17, 3) := by decide +kernel
theorem dX6_leave_19 : decode cX6_leave 19 = .ok (.aload_n 0, 1) := by decide +kernel
theorem dX6_leave_20 : decode cX6_leave 20 = .ok (.iload_n 1, 1) := by decide +kernel
theorem dX6_leave_21 : decode cX6_leave 21 = .ok (.iload_n 2, 1) := by decide +kernel
theorem dX6_leave_22 : decode cX6_leave 22 = .ok (.invokevirtual 99, 3) := by decide +kernel
theorem dX6_leave_25 : decode cX6_leave 25 = .ok (.ifCond .eq 7, 3) := by decide +kernel
theorem dX6_leave_28 : decode cX6_leave 28 = .ok (.iconst 0, 1) := by decide +kernel
theorem dX6_leave_29 : decode cX6_leave 29 = .ok (.goto 4, 3) := by decide +kernel
theorem dX6_leave_32 : decode cX6_leave 32 = .ok (.iconst 2, 1) := by decide +kernel
theorem dX6_leave_33 : decode cX6_leave 33 = .ok (.invokevirtual 90, 3) := by decide +kernel
theorem dX6_leave_36 : decode cX6_leave 36 = .ok (.ifCond .ne 5, 3) := by decide +kernel
theorem dX6_leave_39 : decode cX6_leave 39 = .ok (.iconst 0, 1) := by decide +kernel
theorem dX6_leave_40 : decode cX6_leave 40 = .ok (.ireturn, 1) := by decide +kernel
theorem dX6_leave_41 : decode cX6_leave 41 = .ok (.aload_n 0, 1) := by decide +kernel
theorem dX6_leave_42 : decode cX6_leave 42 = .ok (.getfield 24, 3) := by decide +kernel
theorem dX6_leave_45 : decode cX6_leave 45 = .ok (.iload_n 2, 1) := by decide +kernel
theorem dX6_leave_46 : decode cX6_leave 46 = .ok (.dup2, 1) := by decide +kernel
theorem dX6_leave_47 : decode cX6_leave 47 = .ok (.iaload, 1) := by decide +kernel
theorem dX6_leave_48 : decode cX6_leave 48 = .ok (.iconst 1, 1) := by decide +kernel
theorem dX6_leave_49 : decode cX6_leave 49 = .ok (.iload_n 1, 1) := by decide +kernel
theorem dX6_leave_50 : decode cX6_leave 50 = .ok (.ishl, 1) := by decide +kernel
theorem dX6_leave_51 : decode cX6_leave 51 = .ok (.iconst (-1), 1) := by decide +kernel
theorem dX6_leave_52 : decode cX6_leave 52 = .ok (.ixor, 1) := by decide +kernel
theorem dX6_leave_53 : decode cX6_leave 53 = .ok (.iand, 1) := by decide +kernel
theorem dX6_leave_54 : decode cX6_leave 54 = .ok (.iastore, 1) := by decide +kernel
theorem dX6_leave_55 : decode cX6_leave 55 = .ok (.iconst 0, 1) := by decide +kernel
theorem dX6_leave_56 : decode cX6_leave 56 = .ok (.istore_n 3, 1) := by decide +kernel
theorem dX6_leave_57 : decode cX6_leave 57 = .ok (.iload_n 3, 1) := by decide +kernel
theorem dX6_leave_58 : decode cX6_leave 58 = .ok (.bipush 10, 2) := by decide +kernel
theorem dX6_leave_60 : decode cX6_leave 60 = .ok (.if_icmp .ge 44, 3) := by decide +kernel
theorem dX6_leave_63 : decode cX6_leave 63 = .ok (.aload_n 0, 1) := by decide +kernel
theorem dX6_leave_64 : decode cX6_leave 64 = .ok (.getfield 27, 3) := by decide +kernel
theorem dX6_leave_67 : decode cX6_leave 67 = .ok (.bipush 10, 2) := by decide +kernel
theorem dX6_leave_69 : decode cX6_leave 69 = .ok (.iload_n 2, 1) := by decide +kernel
theorem dX6_leave_70 : decode cX6_leave 70 = .ok (.imul, 1) := by decide +kernel
theorem dX6_leave_71 : decode cX6_leave 71 = .ok (.iload_n 3, 1) := by decide +kernel
theorem dX6_leave_72 : decode cX6_leave 72 = .ok (.iadd, 1) := by decide +kernel
theorem dX6_leave_73 : decode cX6_leave 73 = .ok (.dup2, 1) := by decide +kernel
theorem dX6_leave_74 : decode cX6_leave 74 = .ok (.iaload, 1) := by decide +kernel
theorem dX6_leave_75 : decode cX6_leave 75 = .ok (.iconst 1, 1) := by decide +kernel
theorem dX6_leave_76 : decode cX6_leave 76 = .ok (.iload_n 1, 1) := by decide +kernel
theorem dX6_leave_77 : decode cX6_leave 77 = .ok (.ishl, 1) := by decide +kernel
theorem dX6_leave_78 : decode cX6_leave 78 = .ok (.iconst (-1), 1) := by decide +kernel
theorem dX6_leave_79 : decode cX6_leave 79 = .ok (.ixor, 1) := by decide +kernel
theorem dX6_leave_80 : decode cX6_leave 80 = .ok (.iand, 1) := by decide +kernel
theorem dX6_leave_81 : decode cX6_leave 81 = .ok (.iastore, 1) := by decide +kernel
theorem dX6_leave_82 : decode cX6_leave 82 = .ok (.aload_n 0, 1) := by decide +kernel
theorem dX6_leave_83 : decode cX6_leave 83 = .ok (.getfield 30, 3) := by decide +kernel
theorem dX6_leave_86 : decode cX6_leave 86 = .ok (.bipush 40, 2) := by decide +kernel
theorem dX6_leave_88 : decode cX6_leave 88 = .ok (.iload_n 1, 1) := by decide +kernel
theorem dX6_leave_89 : decode cX6_leave 89 = .ok (.imul, 1) := by decide +kernel
theorem dX6_leave_90 : decode cX6_leave 90 = .ok (.iconst 4, 1) := by decide +kernel
theorem dX6_leave_91 : decode cX6_leave 91 = .ok (.iload_n 3, 1) := by decide +kernel
theorem dX6_leave_92 : decode cX6_leave 92 = .ok (.imul, 1) := by decide +kernel
theorem dX6_leave_93 : decode cX6_leave 93 = .ok (.iadd, 1) := by decide +kernel
theorem dX6_leave_94 : decode cX6_leave 94 = .ok (.iload_n 2, 1) := by decide +kernel
theorem dX6_leave_95 : decode cX6_leave 95 = .ok (.iadd, 1) := by decide +kernel
theorem dX6_leave_96 : decode cX6_leave 96 = .ok (.iconst 0, 1) := by decide +kernel
theorem dX6_leave_97 : decode cX6_leave 97 = .ok (.iastore, 1) := by decide +kernel
theorem dX6_leave_98 : decode cX6_leave 98 = .ok (.iinc 3 1, 3) := by decide +kernel
theorem dX6_leave_101 : decode cX6_leave 101 = .ok (.goto (-44), 3) := by decide +kernel
theorem dX6_leave_104 : decode cX6_leave 104 = .ok (.bipush 11, 2) := by decide +kernel
theorem dX6_leave_106 : decode cX6_leave 106 = .ok (.iload_n 2, 1) := by decide +kernel
theorem dX6_leave_107 : decode cX6_leave 107 = .ok (.imul, 1) := by decide +kernel
theorem dX6_leave_108 : decode cX6_leave 108 = .ok (.istore_n 3, 1) := by decide +kernel
theorem dX6_leave_109 : decode cX6_leave 109 = .ok (.iload_n 3, 1) := by decide +kernel
theorem dX6_leave_110 : decode cX6_leave 110 = .ok (.bipush 11, 2) := by decide +kernel
theorem dX6_leave_112 : decode cX6_leave 112 = .ok (.iload_n 2, 1) := by decide +kernel
theorem dX6_leave_113 : decode cX6_leave 113 = .ok (.imul, 1) := by decide +kernel
theorem dX6_leave_114 : decode cX6_leave 114 = .ok (.bipush 11, 2) := by decide +kernel
theorem dX6_leave_116 : decode cX6_leave 116 = .ok (.iadd, 1) := by decide +kernel
theorem dX6_leave_117 : decode cX6_leave 117 = .ok (.if_icmp .ge 15, 3) := by decide +kernel
theorem dX6_leave_120 : decode cX6_leave 120 = .ok (.aload_n 0, 1) := by decide +kernel
theorem dX6_leave_121 : decode cX6_leave 121 = .ok (.iload_n 3, 1) := by decide +kernel
theorem dX6_leave_122 : decode cX6_leave 122 = .ok (.iload_n 1, 1) := by decide +kernel
theorem dX6_leave_123 : decode cX6_leave 123 = .ok (.invokevirtual 105, 3) := by decide +kernel
theorem dX6_leave_126 : decode cX6_leave 126 = .ok (.iinc 3 1, 3) := by decide +kernel
theorem dX6_leave_129 : decode cX6_leave 129 = .ok (.goto (-20), 3) := by decide +kernel
theorem dX6_leave_132 : decode cX6_leave 132 = .ok (.aload_n 0, 1) := by decide +kernel
theorem dX6_leave_133 : decode cX6_leave 133 = .ok (.getfield 24, 3) := by decide +kernel
theorem dX6_leave_136 : decode cX6_leave 136 = .ok (.iload_n 2, 1) := by decide +kernel
theorem dX6_leave_137 : decode cX6_leave 137 = .ok (.iaload, 1) := by decide +kernel
theorem dX6_leave_138 : decode cX6_leave 138 = .ok (.invokestatic 102, 3) := by decide +kernel
theorem dX6_leave_141 : decode cX6_leave 141 = .ok (.ireturn, 1) := by decide +kernel
theorem dX6_members_0 : decode cX6_members 0 = .ok (.aload_n 0, 1) := by decide +kernel
theorem dX6_members_1 : decode cX6_members 1 = .ok (.iload_n 1, 1) := by decide +kernel
theorem dX6_members_2 : decode cX6_members 2 = .ok (.invokestatic 96, 3) := by decide +kernel
theorem dX6_members_5 : decode cX6_members 5 = .ok (.ifCond .eq 7, 3) := by decide +kernel
theorem dX6_members_8 : decode cX6_members 8 = .ok (.iconst 0, 1) := by decide +kernel
theorem dX6_members_9 : decode cX6_members 9 = .ok (.goto 4, 3) := by decide +kernel
theorem dX6_members_12 : decode cX6_members 12 = .ok (.iconst 1, 1) := by decide +kernel
theorem dX6_members_13 : decode cX6_members 13 = .ok (.invokevirtual 90, 3) := by decide +kernel
theorem dX6_members_16 : decode cX6_members 16 = .ok (.ifCond .eq 12, 3) := by decide +kernel
theorem dX6_members_19 : decode cX6_members 19 = .ok (.aload_n 0, 1) := by decide +kernel
theorem dX6_members_20 : decode cX6_members 20 = .ok (.getfield 24, 3) := by decide +kernel
theorem dX6_members_23 : decode cX6_members 23 = .ok (.iload_n 1, 1) := by decide +kernel
theorem dX6_members_24 : decode cX6_members 24 = .ok (.iaload, 1) := by decide +kernel
theorem dX6_members_25 : decode cX6_members 25 = .ok (.goto 4, 3) := by decide +kernel
theorem dX6_members_28 : decode cX6_members 28 = .ok (.iconst 0, 1) := by decide +kernel
theorem dX6_members_29 : decode cX6_members 29 = .ok (.ireturn, 1) := by decide +kernel
theorem dX6_switched_0 : decode cX6_switched 0 = .ok (.aload_n 0, 1) := by decide +kernel
theorem dX6_switched_1 : decode cX6_switched 1 = .ok (.iload_n 1, 1) := by decide +kernel
theorem dX6_switched_2 : decode cX6_switched 2 = .ok (.invokestatic 86, 3) := by decide +kernel
theorem dX6_switched_5 : decode cX6_switched 5 = .ok (.ifCond .eq 14, 3) := by decide +kernel
theorem dX6_switched_8 : decode cX6_switched 8 = .ok (.iload_n 2, 1) := by decide +kernel
theorem dX6_switched_9 : decode cX6_switched 9 = .ok (.invokestatic 96, 3) := by decide +kernel
theorem dX6_switched_12 : decode cX6_switched 12 = .ok (.ifCond .eq 7, 3) := by decide +kernel
theorem dX6_switched_15 : decode cX6_switched 15 = .ok (.iconst 0, 1) := by decide +kernel
theorem dX6_switched_16 : decode cX6_switched 16 = .ok (.goto 4, 3) := by decide +kernel
theorem dX6_switched_19 : decode cX6_switched 19 = .ok (.iconst 1, 1) := by decide +kernel
theorem dX6_switched_20 : decode cX6_switched 20 = .ok (.invokevirtual 90, 3) := by decide +kernel
theorem dX6_switched_23 : decode cX6_switched 23 = .ok (.ifCond .eq 17, 3) := by decide +kernel
theorem dX6_switched_26 : decode cX6_switched 26 = .ok (.aload_n 0, 1) := by decide +kernel
theorem dX6_switched_27 : decode cX6_switched 27 = .ok (.getfield 27, 3) := by decide +kernel
theorem dX6_switched_30 : decode cX6_switched 30 = .ok (.bipush 10, 2) := by decide +kernel
theorem dX6_switched_32 : decode cX6_switched 32 = .ok (.iload_n 2, 1) := by decide +kernel
theorem dX6_switched_33 : decode cX6_switched 33 = .ok (.imul, 1) := by decide +kernel
theorem dX6_switched_34 : decode cX6_switched 34 = .ok (.iload_n 1, 1) := by decide +kernel
theorem dX6_switched_35 : decode cX6_switched 35 = .ok (.iadd, 1) := by decide +kernel
theorem dX6_switched_36 : decode cX6_switched 36 = .ok (.iaload, 1) := by decide +kernel
theorem dX6_switched_37 : decode cX6_switched 37 = .ok (.goto 4, 3) := by decide +kernel
theorem dX6_switched_40 : decode cX6_switched 40 = .ok (.iconst 0, 1) := by decide +kernel
theorem dX6_switched_41 : decode cX6_switched 41 = .ok (.ireturn, 1) := by decide +kernel
theorem dX6_branches_0 : decode cX6_branches 0 = .ok (.aload_n 0, 1) := by decide +kernel
theorem dX6_branches_1 : decode cX6_branches 1 = .ok (.iload_n 1, 1) := by decide +kernel
theorem dX6_branches_2 : decode cX6_branches 2 = .ok (.invokestatic 86, 3) := by decide +kernel
theorem dX6_branches_5 : decode cX6_branches 5 = .ok (.ifCond .eq 14, 3) := by decide +kernel
theorem dX6_branches_8 : decode cX6_branches 8 = .ok (.iload_n 2, 1) := by decide +kernel
theorem dX6_branches_9 : decode cX6_branches 9 = .ok (.invokestatic 96, 3) := by decide +kernel
theorem dX6_branches_12 : decode cX6_branches 12 = .ok (.ifCond .eq 7, 3) := by decide +kernel
theorem dX6_branches_15 : decode cX6_branches 15 = .ok (.iconst 0, 1) := by decide +kernel
theorem dX6_branches_16 : decode cX6_branches 16 = .ok (.goto 4, 3) := by decide +kernel
theorem dX6_branches_19 : decode cX6_branches 19 = .ok (.iconst 1, 1) := by decide +kernel
theorem dX6_branches_20 : decode cX6_branches 20 = .ok (.invokevirtual 90, 3) := by decide +kernel
theorem dX6_branches_23 : decode cX6_branches 23 = .ok (.ifCond .eq 18, 3) := by decide +kernel
theorem dX6_branches_26 : decode cX6_branches 26 = .ok (.aload_n 0, 1) := by decide +kernel
theorem dX6_branches_27 : decode cX6_branches 27 = .ok (.bipush 11, 2) := by decide +kernel
theorem dX6_branches_29 : decode cX6_branches 29 = .ok (.iload_n 2, 1) := by decide +kernel
theorem dX6_branches_30 : decode cX6_branches 30 = .ok (.imul, 1) := by decide +kernel
theorem dX6_branches_31 : decode cX6_branches 31 = .ok (.bipush 10, 2) := by decide +kernel
theorem dX6_branches_33 : decode cX6_branches 33 = .ok (.iadd, 1) := by decide +kernel
theorem dX6_branches_34 : decode cX6_branches 34 = .ok (.iload_n 1, 1) := by decide +kernel
theorem dX6_branches_35 : decode cX6_branches 35 = .ok (.invokevirtual 76, 3) := by decide +kernel
theorem dX6_branches_38 : decode cX6_branches 38 = .ok (.goto 4, 3) := by decide +kernel
theorem dX6_branches_41 : decode cX6_branches 41 = .ok (.iconst 0, 1) := by decide +kernel
theorem dX6_branches_42 : decode cX6_branches 42 = .ok (.ireturn, 1) := by decide +kernel
theorem dX6_sourceBranches_0 : decode cX6_sourceBranches 0 = .ok (.aload_n 0, 1) := by decide +kernel
theorem dX6_sourceBranches_1 : decode cX6_sourceBranches 1 = .ok (.iload_n 1, 1) := by decide +kernel
theorem dX6_sourceBranches_2 : decode cX6_sourceBranches 2 = .ok (.invokestatic 86, 3) := by decide +kernel
theorem dX6_sourceBranches_5 : decode cX6_sourceBranches 5 = .ok (.ifCond .eq 21, 3) := by decide +kernel
theorem dX6_sourceBranches_8 : decode cX6_sourceBranches 8 = .ok (.iload_n 2, 1) := by decide +kernel
theorem dX6_sourceBranches_9 : decode cX6_sourceBranches 9 = .ok (.invokestatic 86, 3) := by decide +kernel
theorem dX6_sourceBranches_12 : decode cX6_sourceBranches 12 = .ok (.ifCond .eq 14, 3) := by decide +kernel
theorem dX6_sourceBranches_15 : decode cX6_sourceBranches 15 = .ok (.iload_n 3, 1) := by decide +kernel
theorem dX6_sourceBranches_16 : decode cX6_sourceBranches 16 = .ok (.invokestatic 96, 3) := by decide +kernel
theorem dX6_sourceBranches_19 : decode cX6_sourceBranches 19 = .ok (.ifCond .eq 7, 3) := by decide +kernel
theorem dX6_sourceBranches_22 : decode cX6_sourceBranches 22 = .ok (.iconst 0, 1) := by decide +kernel
theorem dX6_sourceBranches_23 : decode cX6_sourceBranches 23 = .ok (.goto 4, 3) := by decide +kernel
theorem dX6_sourceBranches_26 : decode cX6_sourceBranches 26 = .ok (.iconst 1, 1) := by decide +kernel
theorem dX6_sourceBranches_27 : decode cX6_sourceBranches 27 = .ok (.invokevirtual 90, 3) := by decide +kernel
theorem dX6_sourceBranches_30 : decode cX6_sourceBranches 30 = .ok (.ifCond .eq 17, 3) := by decide +kernel
theorem dX6_sourceBranches_33 : decode cX6_sourceBranches 33 = .ok (.aload_n 0, 1) := by decide +kernel
theorem dX6_sourceBranches_34 : decode cX6_sourceBranches 34 = .ok (.bipush 11, 2) := by decide +kernel
theorem dX6_sourceBranches_36 : decode cX6_sourceBranches 36 = .ok (.iload_n 3, 1) := by decide +kernel
theorem dX6_sourceBranches_37 : decode cX6_sourceBranches 37 = .ok (.imul, 1) := by decide +kernel
theorem dX6_sourceBranches_38 : decode cX6_sourceBranches 38 = .ok (.iload_n 2, 1) := by decide +kernel
theorem dX6_sourceBranches_39 : decode cX6_sourceBranches 39 = .ok (.iadd, 1) := by decide +kernel
theorem dX6_sourceBranches_40 : decode cX6_sourceBranches 40 = .ok (.iload_n 1, 1) := by decide +kernel
theorem dX6_sourceBranches_41 : decode cX6_sourceBranches 41 = .ok (.invokevirtual 76, 3) := by decide +kernel
theorem dX6_sourceBranches_44 : decode cX6_sourceBranches 44 = .ok (.goto 4, 3) := by decide +kernel
theorem dX6_sourceBranches_47 : decode cX6_sourceBranches 47 = .ok (.iconst 0, 1) := by decide +kernel
theorem dX6_sourceBranches_48 : decode cX6_sourceBranches 48 = .ok (.ireturn, 1) := by decide +kernel
theorem dX6_leaving_0 : decode cX6_leaving 0 = .ok (.aload_n 0, 1) := by decide +kernel
theorem dX6_leaving_1 : decode cX6_leaving 1 = .ok (.iconst 0, 1) := by decide +kernel
theorem dX6_leaving_2 : decode cX6_leaving 2 = .ok (.putfield 57, 3) := by decide +kernel
theorem dX6_leaving_5 : decode cX6_leaving 5 = .ok (.iconst 0, 1) := by decide +kernel
theorem dX6_leaving_6 : decode cX6_leaving 6 = .ok (.istore_n 1, 1) := by decide +kernel
theorem dX6_leaving_7 : decode cX6_leaving 7 = .ok (.iconst 0, 1) := by decide +kernel
theorem dX6_leaving_8 : decode cX6_leaving 8 = .ok (.istore_n 2, 1) := by decide +kernel
theorem dX6_leaving_9 : decode cX6_leaving 9 = .ok (.iload_n 2, 1) := by decide +kernel
theorem dX6_leaving_10 : decode cX6_leaving 10 = .ok (.sipush 440, 3) := by decide +kernel
theorem dX6_leaving_13 : decode cX6_leaving 13 = .ok (.if_icmp .ge 27, 3) := by decide +kernel
theorem dX6_leaving_16 : decode cX6_leaving 16 = .ok (.iload_n 1, 1) := by decide +kernel
theorem dX6_leaving_17 : decode cX6_leaving 17 = .ok (.aload_n 0, 1) := by decide +kernel
theorem dX6_leaving_18 : decode cX6_leaving 18 = .ok (.getfield 36, 3) := by decide +kernel
theorem dX6_leaving_21 : decode cX6_leaving 21 = .ok (.iload_n 2, 1) := by decide +kernel
theorem dX6_leaving_22 : decode cX6_leaving 22 = .ok (.iaload, 1) := by decide +kernel
theorem dX6_leaving_23 : decode cX6_leaving 23 = .ok (.iconst (-1), 1) := by decide +kernel
theorem dX6_leaving_24 : decode cX6_leaving 24 = .ok (.if_icmp .ne 7, 3) := by decide +kernel
theorem dX6_leaving_27 : decode cX6_leaving 27 = .ok (.iconst 0, 1) := by decide +kernel
theorem dX6_leaving_28 : decode cX6_leaving 28 = .ok (.goto 4, 3) := by decide +kernel
theorem dX6_leaving_31 : decode cX6_leaving 31 = .ok (.iconst 1, 1) := by decide +kernel
theorem dX6_leaving_32 : decode cX6_leaving 32 = .ok (.iadd, 1) := by decide +kernel
theorem dX6_leaving_33 : decode cX6_leaving 33 = .ok (.istore_n 1, 1) := by decide +kernel
theorem dX6_leaving_34 : decode cX6_leaving 34 = .ok (.iinc 2 1, 3) := by decide +kernel
theorem dX6_leaving_37 : decode cX6_leaving 37 = .ok (.goto (-28), 3) := by decide +kernel
theorem dX6_leaving_40 : decode cX6_leaving 40 = .ok (.iload_n 1, 1) := by decide +kernel
theorem dX6_leaving_41 : decode cX6_leaving 41 = .ok (.ireturn, 1) := by decide +kernel
theorem dX6_goesOn_0 : decode cX6_goesOn 0 = .ok (.aload_n 0, 1) := by decide +kernel
theorem dX6_goesOn_1 : decode cX6_goesOn 1 = .ok (.iload_n 3, 1) := by decide +kernel
theorem dX6_goesOn_2 : decode cX6_goesOn 2 = .ok (.iload_n 2, 1) := by decide +kernel
theorem dX6_goesOn_3 : decode cX6_goesOn 3 = .ok (.invokevirtual 76, 3) := by decide +kernel
theorem dX6_goesOn_6 : decode cX6_goesOn 6 = .ok (.istore 4, 2) := by decide +kernel
theorem dX6_goesOn_8 : decode cX6_goesOn 8 = .ok (.iconst 0, 1) := by decide +kernel
theorem dX6_goesOn_9 : decode cX6_goesOn 9 = .ok (.istore 5, 2) := by decide +kernel
theorem dX6_goesOn_11 : decode cX6_goesOn 11 = .ok (.iload 5, 2) := by decide +kernel
theorem dX6_goesOn_13 : decode cX6_goesOn 13 = .ok (.bipush 10, 2) := by decide +kernel
theorem dX6_goesOn_15 : decode cX6_goesOn 15 = .ok (.if_icmp .ge 119, 3) := by decide +kernel
theorem dX6_goesOn_18 : decode cX6_goesOn 18 = .ok (.iload 4, 2) := by decide +kernel
theorem dX6_goesOn_20 : decode cX6_goesOn 20 = .ok (.iload 5, 2) := by decide +kernel
theorem dX6_goesOn_22 : decode cX6_goesOn 22 = .ok (.ishr, 1) := by decide +kernel
theorem dX6_goesOn_23 : decode cX6_goesOn 23 = .ok (.iconst 1, 1) := by decide +kernel
theorem dX6_goesOn_24 : decode cX6_goesOn 24 = .ok (.iand, 1) := by decide +kernel
theorem dX6_goesOn_25 : decode cX6_goesOn 25 = .ok (.iconst 1, 1) := by decide +kernel
theorem dX6_goesOn_26 : decode cX6_goesOn 26 = .ok (.if_icmp .ne 26, 3) := by decide +kernel
theorem dX6_goesOn_29 : decode cX6_goesOn 29 = .ok (.aload_n 0, 1) := by decide +kernel
theorem dX6_goesOn_30 : decode cX6_goesOn 30 = .ok (.getfield 108, 3) := by decide +kernel
theorem dX6_goesOn_33 : decode cX6_goesOn 33 = .ok (.sipush 200, 3) := by decide +kernel
theorem dX6_goesOn_36 : decode cX6_goesOn 36 = .ok (.if_icmp .ne 16, 3) := by decide +kernel
theorem dX6_goesOn_39 : decode cX6_goesOn 39 = .ok (.aload_n 0, 1) := by decide +kernel
theorem dX6_goesOn_40 : decode cX6_goesOn 40 = .ok (.dup, 1) := by decide +kernel
theorem dX6_goesOn_41 : decode cX6_goesOn 41 = .ok (.getfield 111, 3) := by decide +kernel
theorem dX6_goesOn_44 : decode cX6_goesOn 44 = .ok (.iconst 1, 1) := by decide +kernel
theorem dX6_goesOn_45 : decode cX6_goesOn 45 = .ok (.iadd, 1) := by decide +kernel
theorem dX6_goesOn_46 : decode cX6_goesOn 46 = .ok (.putfield 111, 3) := by decide +kernel
theorem dX6_goesOn_49 : decode cX6_goesOn 49 = .ok (.goto 79, 3) := by decide +kernel
theorem dX6_goesOn_52 : decode cX6_goesOn 52 = .ok (.iload 4, 2) := by decide +kernel
theorem dX6_goesOn_54 : decode cX6_goesOn 54 = .ok (.iload 5, 2) := by decide +kernel
theorem dX6_goesOn_56 : decode cX6_goesOn 56 = .ok (.ishr, 1) := by decide +kernel
theorem dX6_goesOn_57 : decode cX6_goesOn 57 = .ok (.iconst 1, 1) := by decide +kernel
theorem dX6_goesOn_58 : decode cX6_goesOn 58 = .ok (.iand, 1) := by decide +kernel
theorem dX6_goesOn_59 : decode cX6_goesOn 59 = .ok (.iconst 1, 1) := by decide +kernel
theorem dX6_goesOn_60 : decode cX6_goesOn 60 = .ok (.if_icmp .ne 68, 3) := by decide +kernel
theorem dX6_goesOn_63 : decode cX6_goesOn 63 = .ok (.aload_n 0, 1) := by decide +kernel
theorem dX6_goesOn_64 : decode cX6_goesOn 64 = .ok (.getfield 39, 3) := by decide +kernel
theorem dX6_goesOn_67 : decode cX6_goesOn 67 = .ok (.iconst 4, 1) := by decide +kernel
theorem dX6_goesOn_68 : decode cX6_goesOn 68 = .ok (.aload_n 0, 1) := by decide +kernel
theorem dX6_goesOn_69 : decode cX6_goesOn 69 = .ok (.getfield 108, 3) := by decide +kernel
theorem dX6_goesOn_72 : decode cX6_goesOn 72 = .ok (.imul, 1) := by decide +kernel
theorem dX6_goesOn_73 : decode cX6_goesOn 73 = .ok (.iload_n 1, 1) := by decide +kernel
theorem dX6_goesOn_74 : decode cX6_goesOn 74 = .ok (.iastore, 1) := by decide +kernel
theorem dX6_goesOn_75 : decode cX6_goesOn 75 = .ok (.aload_n 0, 1) := by decide +kernel
theorem dX6_goesOn_76 : decode cX6_goesOn 76 = .ok (.getfield 39, 3) := by decide +kernel
theorem dX6_goesOn_79 : decode cX6_goesOn 79 = .ok (.iconst 4, 1) := by decide +kernel
theorem dX6_goesOn_80 : decode cX6_goesOn 80 = .ok (.aload_n 0, 1) := by decide +kernel
theorem dX6_goesOn_81 : decode cX6_goesOn 81 = .ok (.getfield 108, 3) := by decide +kernel
theorem dX6_goesOn_84 : decode cX6_goesOn 84 = .ok (.imul, 1) := by decide +kernel
theorem dX6_goesOn_85 : decode cX6_goesOn 85 = .ok (.iconst 1, 1) := by decide +kernel
theorem dX6_goesOn_86 : decode cX6_goesOn 86 = .ok (.iadd, 1) := by decide +kernel
theorem dX6_goesOn_87 : decode cX6_goesOn 87 = .ok (.iload_n 3, 1) := by decide +kernel
theorem dX6_goesOn_88 : decode cX6_goesOn 88 = .ok (.iastore, 1) := by decide +kernel
theorem dX6_goesOn_89 : decode cX6_goesOn 89 = .ok (.aload_n 0, 1) := by decide +kernel
theorem dX6_goesOn_90 : decode cX6_goesOn 90 = .ok (.getfield 39, 3) := by decide +kernel
theorem dX6_goesOn_93 : decode cX6_goesOn 93 = .ok (.iconst 4, 1) := by decide +kernel
theorem dX6_goesOn_94 : decode cX6_goesOn 94 = .ok (.aload_n 0, 1) := by decide +kernel
theorem dX6_goesOn_95 : decode cX6_goesOn 95 = .ok (.getfield 108, 3) := by decide +kernel
theorem dX6_goesOn_98 : decode cX6_goesOn 98 = .ok (.imul, 1) := by decide +kernel
theorem dX6_goesOn_99 : decode cX6_goesOn 99 = .ok (.iconst 2, 1) := by decide +kernel
theorem dX6_goesOn_100 : decode cX6_goesOn 100 = .ok (.iadd, 1) := by decide +kernel
theorem dX6_goesOn_101 : decode cX6_goesOn 101 = .ok (.iload_n 2, 1) := by decide +kernel
theorem dX6_goesOn_102 : decode cX6_goesOn 102 = .ok (.iastore, 1) := by decide +kernel
theorem dX6_goesOn_103 : decode cX6_goesOn 103 = .ok (.aload_n 0, 1) := by decide +kernel
theorem dX6_goesOn_104 : decode cX6_goesOn 104 = .ok (.getfield 39, 3) := by decide +kernel
theorem dX6_goesOn_107 : decode cX6_goesOn 107 = .ok (.iconst 4, 1) := by decide +kernel
theorem dX6_goesOn_108 : decode cX6_goesOn 108 = .ok (.aload_n 0, 1) := by decide +kernel
theorem dX6_goesOn_109 : decode cX6_goesOn 109 = .ok (.getfield 108, 3) := by decide +kernel
theorem dX6_goesOn_112 : decode cX6_goesOn 112 = .ok (.imul, 1) := by decide +kernel
theorem dX6_goesOn_113 : decode cX6_goesOn 113 = .ok (.iconst 3, 1) := by decide +kernel
theorem dX6_goesOn_114 : decode cX6_goesOn 114 = .ok (.iadd, 1) := by decide +kernel
theorem dX6_goesOn_115 : decode cX6_goesOn 115 = .ok (.iload 5, 2) := by decide +kernel
theorem dX6_goesOn_117 : decode cX6_goesOn 117 = .ok (.iastore, 1) := by decide +kernel
theorem dX6_goesOn_118 : decode cX6_goesOn 118 = .ok (.aload_n 0, 1) := by decide +kernel
theorem dX6_goesOn_119 : decode cX6_goesOn 119 = .ok (.dup, 1) := by decide +kernel
theorem dX6_goesOn_120 : decode cX6_goesOn 120 = .ok (.getfield 108, 3) := by decide +kernel
theorem dX6_goesOn_123 : decode cX6_goesOn 123 = .ok (.iconst 1, 1) := by decide +kernel
theorem dX6_goesOn_124 : decode cX6_goesOn 124 = .ok (.iadd, 1) := by decide +kernel
theorem dX6_goesOn_125 : decode cX6_goesOn 125 = .ok (.putfield 108, 3) := by decide +kernel
theorem dX6_goesOn_128 : decode cX6_goesOn 128 = .ok (.iinc 5 1, 3) := by decide +kernel
theorem dX6_goesOn_131 : decode cX6_goesOn 131 = .ok (.goto (-120), 3) := by decide +kernel
theorem dX6_goesOn_134 : decode cX6_goesOn 134 = .ok (.return_, 1) := by decide +kernel
theorem dX6_counts_0 : decode cX6_counts 0 = .ok (.bipush 40, 2) := by decide +kernel
theorem dX6_counts_2 : decode cX6_counts 2 = .ok (.iload_n 1, 1) := by decide +kernel
theorem dX6_counts_3 : decode cX6_counts 3 = .ok (.imul, 1) := by decide +kernel
theorem dX6_counts_4 : decode cX6_counts 4 = .ok (.iconst 4, 1) := by decide +kernel
theorem dX6_counts_5 : decode cX6_counts 5 = .ok (.iload_n 2, 1) := by decide +kernel
theorem dX6_counts_6 : decode cX6_counts 6 = .ok (.imul, 1) := by decide +kernel
theorem dX6_counts_7 : decode cX6_counts 7 = .ok (.iadd, 1) := by decide +kernel
theorem dX6_counts_8 : decode cX6_counts 8 = .ok (.iload_n 3, 1) := by decide +kernel
theorem dX6_counts_9 : decode cX6_counts 9 = .ok (.iadd, 1) := by decide +kernel
theorem dX6_counts_10 : decode cX6_counts 10 = .ok (.istore 4, 2) := by decide +kernel
theorem dX6_counts_12 : decode cX6_counts 12 = .ok (.aload_n 0, 1) := by decide +kernel
theorem dX6_counts_13 : decode cX6_counts 13 = .ok (.getfield 30, 3) := by decide +kernel
theorem dX6_counts_16 : decode cX6_counts 16 = .ok (.iload 4, 2) := by decide +kernel
theorem dX6_counts_18 : decode cX6_counts 18 = .ok (.dup2, 1) := by decide +kernel
theorem dX6_counts_19 : decode cX6_counts 19 = .ok (.iaload, 1) := by decide +kernel
theorem dX6_counts_20 : decode cX6_counts 20 = .ok (.iconst 1, 1) := by decide +kernel
theorem dX6_counts_21 : decode cX6_counts 21 = .ok (.iadd, 1) := by decide +kernel
theorem dX6_counts_22 : decode cX6_counts 22 = .ok (.iastore, 1) := by decide +kernel
theorem dX6_counts_23 : decode cX6_counts 23 = .ok (.aload_n 0, 1) := by decide +kernel
theorem dX6_counts_24 : decode cX6_counts 24 = .ok (.getfield 30, 3) := by decide +kernel
theorem dX6_counts_27 : decode cX6_counts 27 = .ok (.iload 4, 2) := by decide +kernel
theorem dX6_counts_29 : decode cX6_counts 29 = .ok (.iaload, 1) := by decide +kernel
theorem dX6_counts_30 : decode cX6_counts 30 = .ok (.aload_n 0, 1) := by decide +kernel
theorem dX6_counts_31 : decode cX6_counts 31 = .ok (.getfield 7, 3) := by decide +kernel
theorem dX6_counts_34 : decode cX6_counts 34 = .ok (.if_icmp .lt 54, 3) := by decide +kernel
theorem dX6_counts_37 : decode cX6_counts 37 = .ok (.iload_n 1, 1) := by decide +kernel
theorem dX6_counts_38 : decode cX6_counts 38 = .ok (.iload_n 2, 1) := by decide +kernel
theorem dX6_counts_39 : decode cX6_counts 39 = .ok (.if_icmp .eq 49, 3) := by decide +kernel
theorem dX6_counts_42 : decode cX6_counts 42 = .ok (.aload_n 0, 1) := by decide +kernel
theorem dX6_counts_43 : decode cX6_counts 43 = .ok (.getfield 27, 3) := by decide +kernel
theorem dX6_counts_46 : decode cX6_counts 46 = .ok (.bipush 10, 2) := by decide +kernel
theorem dX6_counts_48 : decode cX6_counts 48 = .ok (.iload_n 3, 1) := by decide +kernel
theorem dX6_counts_49 : decode cX6_counts 49 = .ok (.imul, 1) := by decide +kernel
theorem dX6_counts_50 : decode cX6_counts 50 = .ok (.iload_n 2, 1) := by decide +kernel
theorem dX6_counts_51 : decode cX6_counts 51 = .ok (.iadd, 1) := by decide +kernel
theorem dX6_counts_52 : decode cX6_counts 52 = .ok (.iaload, 1) := by decide +kernel
theorem dX6_counts_53 : decode cX6_counts 53 = .ok (.iload_n 1, 1) := by decide +kernel
theorem dX6_counts_54 : decode cX6_counts 54 = .ok (.ishr, 1) := by decide +kernel
theorem dX6_counts_55 : decode cX6_counts 55 = .ok (.iconst 1, 1) := by decide +kernel
theorem dX6_counts_56 : decode cX6_counts 56 = .ok (.iand, 1) := by decide +kernel
theorem dX6_counts_57 : decode cX6_counts 57 = .ok (.ifCond .ne 31, 3) := by decide +kernel
theorem dX6_counts_60 : decode cX6_counts 60 = .ok (.aload_n 0, 1) := by decide +kernel
theorem dX6_counts_61 : decode cX6_counts 61 = .ok (.getfield 27, 3) := by decide +kernel
theorem dX6_counts_64 : decode cX6_counts 64 = .ok (.bipush 10, 2) := by decide +kernel
theorem dX6_counts_66 : decode cX6_counts 66 = .ok (.iload_n 3, 1) := by decide +kernel
theorem dX6_counts_67 : decode cX6_counts 67 = .ok (.imul, 1) := by decide +kernel
theorem dX6_counts_68 : decode cX6_counts 68 = .ok (.iload_n 2, 1) := by decide +kernel
theorem dX6_counts_69 : decode cX6_counts 69 = .ok (.iadd, 1) := by decide +kernel
theorem dX6_counts_70 : decode cX6_counts 70 = .ok (.dup2, 1) := by decide +kernel
theorem dX6_counts_71 : decode cX6_counts 71 = .ok (.iaload, 1) := by decide +kernel
theorem dX6_counts_72 : decode cX6_counts 72 = .ok (.iconst 1, 1) := by decide +kernel
theorem dX6_counts_73 : decode cX6_counts 73 = .ok (.iload_n 1, 1) := by decide +kernel
theorem dX6_counts_74 : decode cX6_counts 74 = .ok (.ishl, 1) := by decide +kernel
theorem dX6_counts_75 : decode cX6_counts 75 = .ok (.ior, 1) := by decide +kernel
theorem dX6_counts_76 : decode cX6_counts 76 = .ok (.iastore, 1) := by decide +kernel
theorem dX6_counts_77 : decode cX6_counts 77 = .ok (.aload_n 0, 1) := by decide +kernel
theorem dX6_counts_78 : decode cX6_counts 78 = .ok (.bipush 11, 2) := by decide +kernel
theorem dX6_counts_80 : decode cX6_counts 80 = .ok (.iload_n 3, 1) := by decide +kernel
theorem dX6_counts_81 : decode cX6_counts 81 = .ok (.imul, 1) := by decide +kernel
theorem dX6_counts_82 : decode cX6_counts 82 = .ok (.iload_n 2, 1) := by decide +kernel
theorem dX6_counts_83 : decode cX6_counts 83 = .ok (.iadd, 1) := by decide +kernel
theorem dX6_counts_84 : decode cX6_counts 84 = .ok (.iload_n 1, 1) := by decide +kernel
theorem dX6_counts_85 : decode cX6_counts 85 = .ok (.invokevirtual 82, 3) := by decide +kernel
theorem dX6_counts_88 : decode cX6_counts 88 = .ok (.return_, 1) := by decide +kernel
theorem dX6_gets_0 : decode cX6_gets 0 = .ok (.aload_n 0, 1) := by decide +kernel
theorem dX6_gets_1 : decode cX6_gets 1 = .ok (.getfield 48, 3) := by decide +kernel
theorem dX6_gets_4 : decode cX6_gets 4 = .ok (.iload_n 1, 1) := by decide +kernel
theorem dX6_gets_5 : decode cX6_gets 5 = .ok (.iaload, 1) := by decide +kernel
theorem dX6_gets_6 : decode cX6_gets 6 = .ok (.iload_n 2, 1) := by decide +kernel
theorem dX6_gets_7 : decode cX6_gets 7 = .ok (.ishr, 1) := by decide +kernel
theorem dX6_gets_8 : decode cX6_gets 8 = .ok (.iconst 1, 1) := by decide +kernel
theorem dX6_gets_9 : decode cX6_gets 9 = .ok (.iand, 1) := by decide +kernel
theorem dX6_gets_10 : decode cX6_gets 10 = .ok (.ifCond .ne 7, 3) := by decide +kernel
theorem dX6_gets_13 : decode cX6_gets 13 = .ok (.iconst 1, 1) := by decide +kernel
theorem dX6_gets_14 : decode cX6_gets 14 = .ok (.goto 4, 3) := by decide +kernel
theorem dX6_gets_17 : decode cX6_gets 17 = .ok (.iconst 0, 1) := by decide +kernel
theorem dX6_gets_18 : decode cX6_gets 18 = .ok (.istore 4, 2) := by decide +kernel
theorem dX6_gets_20 : decode cX6_gets 20 = .ok (.aload_n 0, 1) := by decide +kernel
theorem dX6_gets_21 : decode cX6_gets 21 = .ok (.iload_n 2, 1) := by decide +kernel
theorem dX6_gets_22 : decode cX6_gets 22 = .ok (.aload_n 0, 1) := by decide +kernel
theorem dX6_gets_23 : decode cX6_gets 23 = .ok (.getfield 45, 3) := by decide +kernel
theorem dX6_gets_26 : decode cX6_gets 26 = .ok (.iload_n 1, 1) := by decide +kernel
theorem dX6_gets_27 : decode cX6_gets 27 = .ok (.iaload, 1) := by decide +kernel
theorem dX6_gets_28 : decode cX6_gets 28 = .ok (.invokevirtual 99, 3) := by decide +kernel
theorem dX6_gets_31 : decode cX6_gets 31 = .ok (.istore 5, 2) := by decide +kernel
theorem dX6_gets_33 : decode cX6_gets 33 = .ok (.iload 5, 2) := by decide +kernel
theorem dX6_gets_35 : decode cX6_gets 35 = .ok (.ifCond .eq 46, 3) := by decide +kernel
theorem dX6_gets_38 : decode cX6_gets 38 = .ok (.iload 4, 2) := by decide +kernel
theorem dX6_gets_40 : decode cX6_gets 40 = .ok (.ifCond .eq 41, 3) := by decide +kernel
theorem dX6_gets_43 : decode cX6_gets 43 = .ok (.aload_n 0, 1) := by decide +kernel
theorem dX6_gets_44 : decode cX6_gets 44 = .ok (.getfield 48, 3) := by decide +kernel
theorem dX6_gets_47 : decode cX6_gets 47 = .ok (.iload_n 1, 1) := by decide +kernel
theorem dX6_gets_48 : decode cX6_gets 48 = .ok (.dup2, 1) := by decide +kernel
theorem dX6_gets_49 : decode cX6_gets 49 = .ok (.iaload, 1) := by decide +kernel
theorem dX6_gets_50 : decode cX6_gets 50 = .ok (.iconst 1, 1) := by decide +kernel
theorem dX6_gets_51 : decode cX6_gets 51 = .ok (.iload_n 2, 1) := by decide +kernel
theorem dX6_gets_52 : decode cX6_gets 52 = .ok (.ishl, 1) := by decide +kernel
theorem dX6_gets_53 : decode cX6_gets 53 = .ok (.ior, 1) := by decide +kernel
theorem dX6_gets_54 : decode cX6_gets 54 = .ok (.iastore, 1) := by decide +kernel
theorem dX6_gets_55 : decode cX6_gets 55 = .ok (.iload_n 3, 1) := by decide +kernel
theorem dX6_gets_56 : decode cX6_gets 56 = .ok (.bipush 11, 2) := by decide +kernel
theorem dX6_gets_58 : decode cX6_gets 58 = .ok (.irem, 1) := by decide +kernel
theorem dX6_gets_59 : decode cX6_gets 59 = .ok (.bipush 10, 2) := by decide +kernel
theorem dX6_gets_61 : decode cX6_gets 61 = .ok (.if_icmp .ne 20, 3) := by decide +kernel
theorem dX6_gets_64 : decode cX6_gets 64 = .ok (.aload_n 0, 1) := by decide +kernel
theorem dX6_gets_65 : decode cX6_gets 65 = .ok (.iload_n 2, 1) := by decide +kernel
theorem dX6_gets_66 : decode cX6_gets 66 = .ok (.aload_n 0, 1) := by decide +kernel
theorem dX6_gets_67 : decode cX6_gets 67 = .ok (.getfield 42, 3) := by decide +kernel
theorem dX6_gets_70 : decode cX6_gets 70 = .ok (.iload_n 1, 1) := by decide +kernel
theorem dX6_gets_71 : decode cX6_gets 71 = .ok (.iaload, 1) := by decide +kernel
theorem dX6_gets_72 : decode cX6_gets 72 = .ok (.aload_n 0, 1) := by decide +kernel
theorem dX6_gets_73 : decode cX6_gets 73 = .ok (.getfield 45, 3) := by decide +kernel
theorem dX6_gets_76 : decode cX6_gets 76 = .ok (.iload_n 1, 1) := by decide +kernel
theorem dX6_gets_77 : decode cX6_gets 77 = .ok (.iaload, 1) := by decide +kernel
theorem dX6_gets_78 : decode cX6_gets 78 = .ok (.invokevirtual 114, 3) := by decide +kernel
theorem dX6_gets_81 : decode cX6_gets 81 = .ok (.aload_n 0, 1) := by decide +kernel
theorem dX6_gets_82 : decode cX6_gets 82 = .ok (.getfield 51, 3) := by decide +kernel
theorem dX6_gets_85 : decode cX6_gets 85 = .ok (.iload_n 1, 1) := by decide +kernel
theorem dX6_gets_86 : decode cX6_gets 86 = .ok (.dup2, 1) := by decide +kernel
theorem dX6_gets_87 : decode cX6_gets 87 = .ok (.iaload, 1) := by decide +kernel
theorem dX6_gets_88 : decode cX6_gets 88 = .ok (.iload 5, 2) := by decide +kernel
theorem dX6_gets_90 : decode cX6_gets 90 = .ok (.ifCond .eq 12, 3) := by decide +kernel
theorem dX6_gets_93 : decode cX6_gets 93 = .ok (.iload 4, 2) := by decide +kernel
theorem dX6_gets_95 : decode cX6_gets 95 = .ok (.ifCond .ne 7, 3) := by decide +kernel
theorem dX6_gets_98 : decode cX6_gets 98 = .ok (.iconst 1, 1) := by decide +kernel
theorem dX6_gets_99 : decode cX6_gets 99 = .ok (.goto 4, 3) := by decide +kernel
theorem dX6_gets_102 : decode cX6_gets 102 = .ok (.iconst 0, 1) := by decide +kernel
theorem dX6_gets_103 : decode cX6_gets 103 = .ok (.iadd, 1) := by decide +kernel
theorem dX6_gets_104 : decode cX6_gets 104 = .ok (.iastore, 1) := by decide +kernel
theorem dX6_gets_105 : decode cX6_gets 105 = .ok (.aload_n 0, 1) := by decide +kernel
theorem dX6_gets_106 : decode cX6_gets 106 = .ok (.iload_n 1, 1) := by decide +kernel
theorem dX6_gets_107 : decode cX6_gets 107 = .ok (.iload_n 2, 1) := by decide +kernel
theorem dX6_gets_108 : decode cX6_gets 108 = .ok (.iload_n 3, 1) := by decide +kernel
theorem dX6_gets_109 : decode cX6_gets 109 = .ok (.invokevirtual 118, 3) := by decide +kernel
theorem dX6_gets_112 : decode cX6_gets 112 = .ok (.iload 5, 2) := by decide +kernel
theorem dX6_gets_114 : decode cX6_gets 114 = .ok (.ifCond .eq 12, 3) := by decide +kernel
theorem dX6_gets_117 : decode cX6_gets 117 = .ok (.iload 4, 2) := by decide +kernel
theorem dX6_gets_119 : decode cX6_gets 119 = .ok (.ifCond .eq 7, 3) := by decide +kernel
theorem dX6_gets_122 : decode cX6_gets 122 = .ok (.iconst 1, 1) := by decide +kernel
theorem dX6_gets_123 : decode cX6_gets 123 = .ok (.goto 4, 3) := by decide +kernel
theorem dX6_gets_126 : decode cX6_gets 126 = .ok (.iconst 0, 1) := by decide +kernel
theorem dX6_gets_127 : decode cX6_gets 127 = .ok (.ireturn, 1) := by decide +kernel
theorem dX6_send_0 : decode cX6_send 0 = .ok (.aload_n 0, 1) := by decide +kernel
theorem dX6_send_1 : decode cX6_send 1 = .ok (.iload_n 1, 1) := by decide +kernel
theorem dX6_send_2 : decode cX6_send 2 = .ok (.invokestatic 86, 3) := by decide +kernel
theorem dX6_send_5 : decode cX6_send 5 = .ok (.ifCond .eq 10, 3) := by decide +kernel
