theorem dX6_send_8 : decode cX6_send 8 = .ok (.iload_n 2, 1) := by decide +kernel
theorem dX6_send_9 : decode cX6_send 9 = .ok (.invokestatic 96, 3) := by decide +kernel
theorem dX6_send_12 : decode cX6_send 12 = .ok (.ifCond .ne 7, 3) := by decide +kernel
theorem dX6_send_15 : decode cX6_send 15 = .ok (.iconst 1, 1) := by decide +kernel
theorem dX6_send_16 : decode cX6_send 16 = .ok (.goto 18, 3) := by decide +kernel
theorem dX6_send_19 : decode cX6_send 19 = .ok (.aload_n 0, 1) := by decide +kernel
theorem dX6_send_20 : decode cX6_send 20 = .ok (.getfield 121, 3) := by decide +kernel
theorem dX6_send_23 : decode cX6_send 23 = .ok (.sipush 200, 3) := by decide +kernel
theorem dX6_send_26 : decode cX6_send 26 = .ok (.if_icmp .ne 7, 3) := by decide +kernel
theorem dX6_send_29 : decode cX6_send 29 = .ok (.iconst 2, 1) := by decide +kernel
theorem dX6_send_30 : decode cX6_send 30 = .ok (.goto 4, 3) := by decide +kernel
theorem dX6_send_33 : decode cX6_send 33 = .ok (.iconst 0, 1) := by decide +kernel
theorem dX6_send_34 : decode cX6_send 34 = .ok (.invokevirtual 90, 3) := by decide +kernel
theorem dX6_send_37 : decode cX6_send 37 = .ok (.ifCond .ne 5, 3) := by decide +kernel
theorem dX6_send_40 : decode cX6_send 40 = .ok (.iconst 0, 1) := by decide +kernel
theorem dX6_send_41 : decode cX6_send 41 = .ok (.ireturn, 1) := by decide +kernel
theorem dX6_send_42 : decode cX6_send 42 = .ok (.aload_n 0, 1) := by decide +kernel
theorem dX6_send_43 : decode cX6_send 43 = .ok (.getfield 121, 3) := by decide +kernel
theorem dX6_send_46 : decode cX6_send 46 = .ok (.istore_n 3, 1) := by decide +kernel
theorem dX6_send_47 : decode cX6_send 47 = .ok (.aload_n 0, 1) := by decide +kernel
theorem dX6_send_48 : decode cX6_send 48 = .ok (.dup, 1) := by decide +kernel
theorem dX6_send_49 : decode cX6_send 49 = .ok (.getfield 121, 3) := by decide +kernel
theorem dX6_send_52 : decode cX6_send 52 = .ok (.iconst 1, 1) := by decide +kernel
theorem dX6_send_53 : decode cX6_send 53 = .ok (.iadd, 1) := by decide +kernel
theorem dX6_send_54 : decode cX6_send 54 = .ok (.putfield 121, 3) := by decide +kernel
theorem dX6_send_57 : decode cX6_send 57 = .ok (.aload_n 0, 1) := by decide +kernel
theorem dX6_send_58 : decode cX6_send 58 = .ok (.getfield 42, 3) := by decide +kernel
theorem dX6_send_61 : decode cX6_send 61 = .ok (.iload_n 3, 1) := by decide +kernel
theorem dX6_send_62 : decode cX6_send 62 = .ok (.iload_n 1, 1) := by decide +kernel
theorem dX6_send_63 : decode cX6_send 63 = .ok (.iastore, 1) := by decide +kernel
theorem dX6_send_64 : decode cX6_send 64 = .ok (.aload_n 0, 1) := by decide +kernel
theorem dX6_send_65 : decode cX6_send 65 = .ok (.getfield 45, 3) := by decide +kernel
theorem dX6_send_68 : decode cX6_send 68 = .ok (.iload_n 3, 1) := by decide +kernel
theorem dX6_send_69 : decode cX6_send 69 = .ok (.iload_n 2, 1) := by decide +kernel
theorem dX6_send_70 : decode cX6_send 70 = .ok (.iastore, 1) := by decide +kernel
theorem dX6_send_71 : decode cX6_send 71 = .ok (.aload_n 0, 1) := by decide +kernel
theorem dX6_send_72 : decode cX6_send 72 = .ok (.getfield 48, 3) := by decide +kernel
theorem dX6_send_75 : decode cX6_send 75 = .ok (.iload_n 3, 1) := by decide +kernel
theorem dX6_send_76 : decode cX6_send 76 = .ok (.aload_n 0, 1) := by decide +kernel
theorem dX6_send_77 : decode cX6_send 77 = .ok (.getfield 24, 3) := by decide +kernel
theorem dX6_send_80 : decode cX6_send 80 = .ok (.iload_n 2, 1) := by decide +kernel
theorem dX6_send_81 : decode cX6_send 81 = .ok (.iaload, 1) := by decide +kernel
theorem dX6_send_82 : decode cX6_send 82 = .ok (.iconst 1, 1) := by decide +kernel
theorem dX6_send_83 : decode cX6_send 83 = .ok (.iload_n 1, 1) := by decide +kernel
theorem dX6_send_84 : decode cX6_send 84 = .ok (.ishl, 1) := by decide +kernel
theorem dX6_send_85 : decode cX6_send 85 = .ok (.iand, 1) := by decide +kernel
theorem dX6_send_86 : decode cX6_send 86 = .ok (.iastore, 1) := by decide +kernel
theorem dX6_send_87 : decode cX6_send 87 = .ok (.aload_n 0, 1) := by decide +kernel
theorem dX6_send_88 : decode cX6_send 88 = .ok (.iload_n 2, 1) := by decide +kernel
theorem dX6_send_89 : decode cX6_send 89 = .ok (.invokevirtual 61, 3) := by decide +kernel
theorem dX6_send_92 : decode cX6_send 92 = .ok (.istore 4, 2) := by decide +kernel
theorem dX6_send_94 : decode cX6_send 94 = .ok (.iload 4, 2) := by decide +kernel
theorem dX6_send_96 : decode cX6_send 96 = .ok (.iconst (-1), 1) := by decide +kernel
theorem dX6_send_97 : decode cX6_send 97 = .ok (.if_icmp .eq 36, 3) := by decide +kernel
theorem dX6_send_100 : decode cX6_send 100 = .ok (.aload_n 0, 1) := by decide +kernel
theorem dX6_send_101 : decode cX6_send 101 = .ok (.getfield 17, 3) := by decide +kernel
theorem dX6_send_104 : decode cX6_send 104 = .ok (.bipush 10, 2) := by decide +kernel
theorem dX6_send_106 : decode cX6_send 106 = .ok (.iload_n 1, 1) := by decide +kernel
theorem dX6_send_107 : decode cX6_send 107 = .ok (.imul, 1) := by decide +kernel
theorem dX6_send_108 : decode cX6_send 108 = .ok (.iload 4, 2) := by decide +kernel
theorem dX6_send_110 : decode cX6_send 110 = .ok (.iadd, 1) := by decide +kernel
theorem dX6_send_111 : decode cX6_send 111 = .ok (.iaload, 1) := by decide +kernel
theorem dX6_send_112 : decode cX6_send 112 = .ok (.ldc 60, 2) := by decide +kernel
theorem dX6_send_114 : decode cX6_send 114 = .ok (.if_icmp .ge 19, 3) := by decide +kernel
theorem dX6_send_117 : decode cX6_send 117 = .ok (.aload_n 0, 1) := by decide +kernel
theorem dX6_send_118 : decode cX6_send 118 = .ok (.iload_n 3, 1) := by decide +kernel
theorem dX6_send_119 : decode cX6_send 119 = .ok (.iload 4, 2) := by decide +kernel
theorem dX6_send_121 : decode cX6_send 121 = .ok (.bipush 11, 2) := by decide +kernel
theorem dX6_send_123 : decode cX6_send 123 = .ok (.iload_n 2, 1) := by decide +kernel
theorem dX6_send_124 : decode cX6_send 124 = .ok (.imul, 1) := by decide +kernel
theorem dX6_send_125 : decode cX6_send 125 = .ok (.bipush 10, 2) := by decide +kernel
theorem dX6_send_127 : decode cX6_send 127 = .ok (.iadd, 1) := by decide +kernel
theorem dX6_send_128 : decode cX6_send 128 = .ok (.invokevirtual 124, 3) := by decide +kernel
theorem dX6_send_131 : decode cX6_send 131 = .ok (.istore 5, 2) := by decide +kernel
theorem dX6_send_133 : decode cX6_send 133 = .ok (.aload_n 0, 1) := by decide +kernel
theorem dX6_send_134 : decode cX6_send 134 = .ok (.iload_n 3, 1) := by decide +kernel
theorem dX6_send_135 : decode cX6_send 135 = .ok (.iload_n 1, 1) := by decide +kernel
theorem dX6_send_136 : decode cX6_send 136 = .ok (.bipush 11, 2) := by decide +kernel
theorem dX6_send_138 : decode cX6_send 138 = .ok (.iload_n 2, 1) := by decide +kernel
theorem dX6_send_139 : decode cX6_send 139 = .ok (.imul, 1) := by decide +kernel
theorem dX6_send_140 : decode cX6_send 140 = .ok (.iload_n 1, 1) := by decide +kernel
theorem dX6_send_141 : decode cX6_send 141 = .ok (.iadd, 1) := by decide +kernel
theorem dX6_send_142 : decode cX6_send 142 = .ok (.invokevirtual 118, 3) := by decide +kernel
theorem dX6_send_145 : decode cX6_send 145 = .ok (.iload_n 3, 1) := by decide +kernel
theorem dX6_send_146 : decode cX6_send 146 = .ok (.ireturn, 1) := by decide +kernel
theorem dX6_follows_0 : decode cX6_follows 0 = .ok (.aload_n 0, 1) := by decide +kernel
theorem dX6_follows_1 : decode cX6_follows 1 = .ok (.getfield 108, 3) := by decide +kernel
theorem dX6_follows_4 : decode cX6_follows 4 = .ok (.ifCond .ne 5, 3) := by decide +kernel
theorem dX6_follows_7 : decode cX6_follows 7 = .ok (.iconst 0, 1) := by decide +kernel
theorem dX6_follows_8 : decode cX6_follows 8 = .ok (.ireturn, 1) := by decide +kernel
theorem dX6_follows_9 : decode cX6_follows 9 = .ok (.aload_n 0, 1) := by decide +kernel
theorem dX6_follows_10 : decode cX6_follows 10 = .ok (.getfield 39, 3) := by decide +kernel
theorem dX6_follows_13 : decode cX6_follows 13 = .ok (.iconst 0, 1) := by decide +kernel
theorem dX6_follows_14 : decode cX6_follows 14 = .ok (.iaload, 1) := by decide +kernel
theorem dX6_follows_15 : decode cX6_follows 15 = .ok (.istore_n 1, 1) := by decide +kernel
theorem dX6_follows_16 : decode cX6_follows 16 = .ok (.aload_n 0, 1) := by decide +kernel
theorem dX6_follows_17 : decode cX6_follows 17 = .ok (.getfield 39, 3) := by decide +kernel
theorem dX6_follows_20 : decode cX6_follows 20 = .ok (.iconst 1, 1) := by decide +kernel
theorem dX6_follows_21 : decode cX6_follows 21 = .ok (.iaload, 1) := by decide +kernel
theorem dX6_follows_22 : decode cX6_follows 22 = .ok (.istore_n 2, 1) := by decide +kernel
theorem dX6_follows_23 : decode cX6_follows 23 = .ok (.aload_n 0, 1) := by decide +kernel
theorem dX6_follows_24 : decode cX6_follows 24 = .ok (.getfield 39, 3) := by decide +kernel
theorem dX6_follows_27 : decode cX6_follows 27 = .ok (.iconst 2, 1) := by decide +kernel
theorem dX6_follows_28 : decode cX6_follows 28 = .ok (.iaload, 1) := by decide +kernel
theorem dX6_follows_29 : decode cX6_follows 29 = .ok (.istore_n 3, 1) := by decide +kernel
theorem dX6_follows_30 : decode cX6_follows 30 = .ok (.aload_n 0, 1) := by decide +kernel
theorem dX6_follows_31 : decode cX6_follows 31 = .ok (.getfield 39, 3) := by decide +kernel
theorem dX6_follows_34 : decode cX6_follows 34 = .ok (.iconst 3, 1) := by decide +kernel
theorem dX6_follows_35 : decode cX6_follows 35 = .ok (.iaload, 1) := by decide +kernel
theorem dX6_follows_36 : decode cX6_follows 36 = .ok (.istore 4, 2) := by decide +kernel
theorem dX6_follows_38 : decode cX6_follows 38 = .ok (.aload_n 0, 1) := by decide +kernel
theorem dX6_follows_39 : decode cX6_follows 39 = .ok (.dup, 1) := by decide +kernel
theorem dX6_follows_40 : decode cX6_follows 40 = .ok (.getfield 108, 3) := by decide +kernel
theorem dX6_follows_43 : decode cX6_follows 43 = .ok (.iconst 1, 1) := by decide +kernel
theorem dX6_follows_44 : decode cX6_follows 44 = .ok (.isub, 1) := by decide +kernel
theorem dX6_follows_45 : decode cX6_follows 45 = .ok (.putfield 108, 3) := by decide +kernel
theorem dX6_follows_48 : decode cX6_follows 48 = .ok (.iconst 0, 1) := by decide +kernel
theorem dX6_follows_49 : decode cX6_follows 49 = .ok (.istore 5, 2) := by decide +kernel
theorem dX6_follows_51 : decode cX6_follows 51 = .ok (.iload 5, 2) := by decide +kernel
theorem dX6_follows_53 : decode cX6_follows 53 = .ok (.iconst 4, 1) := by decide +kernel
theorem dX6_follows_54 : decode cX6_follows 54 = .ok (.aload_n 0, 1) := by decide +kernel
theorem dX6_follows_55 : decode cX6_follows 55 = .ok (.getfield 108, 3) := by decide +kernel
theorem dX6_follows_58 : decode cX6_follows 58 = .ok (.imul, 1) := by decide +kernel
theorem dX6_follows_59 : decode cX6_follows 59 = .ok (.if_icmp .ge 25, 3) := by decide +kernel
theorem dX6_follows_62 : decode cX6_follows 62 = .ok (.aload_n 0, 1) := by decide +kernel
theorem dX6_follows_63 : decode cX6_follows 63 = .ok (.getfield 39, 3) := by decide +kernel
theorem dX6_follows_66 : decode cX6_follows 66 = .ok (.iload 5, 2) := by decide +kernel
theorem dX6_follows_68 : decode cX6_follows 68 = .ok (.aload_n 0, 1) := by decide +kernel
theorem dX6_follows_69 : decode cX6_follows 69 = .ok (.getfield 39, 3) := by decide +kernel
theorem dX6_follows_72 : decode cX6_follows 72 = .ok (.iload 5, 2) := by decide +kernel
theorem dX6_follows_74 : decode cX6_follows 74 = .ok (.iconst 4, 1) := by decide +kernel
theorem dX6_follows_75 : decode cX6_follows 75 = .ok (.iadd, 1) := by decide +kernel
theorem dX6_follows_76 : decode cX6_follows 76 = .ok (.iaload, 1) := by decide +kernel
theorem dX6_follows_77 : decode cX6_follows 77 = .ok (.iastore, 1) := by decide +kernel
theorem dX6_follows_78 : decode cX6_follows 78 = .ok (.iinc 5 1, 3) := by decide +kernel
theorem dX6_follows_81 : decode cX6_follows 81 = .ok (.goto (-30), 3) := by decide +kernel
theorem dX6_follows_84 : decode cX6_follows 84 = .ok (.aload_n 0, 1) := by decide +kernel
theorem dX6_follows_85 : decode cX6_follows 85 = .ok (.iload_n 2, 1) := by decide +kernel
theorem dX6_follows_86 : decode cX6_follows 86 = .ok (.invokevirtual 65, 3) := by decide +kernel
theorem dX6_follows_89 : decode cX6_follows 89 = .ok (.istore 5, 2) := by decide +kernel
theorem dX6_follows_91 : decode cX6_follows 91 = .ok (.aload_n 0, 1) := by decide +kernel
theorem dX6_follows_92 : decode cX6_follows 92 = .ok (.getfield 13, 3) := by decide +kernel
theorem dX6_follows_95 : decode cX6_follows 95 = .ok (.bipush 10, 2) := by decide +kernel
theorem dX6_follows_97 : decode cX6_follows 97 = .ok (.iload_n 3, 1) := by decide +kernel
theorem dX6_follows_98 : decode cX6_follows 98 = .ok (.imul, 1) := by decide +kernel
theorem dX6_follows_99 : decode cX6_follows 99 = .ok (.iload 4, 2) := by decide +kernel
theorem dX6_follows_101 : decode cX6_follows 101 = .ok (.iadd, 1) := by decide +kernel
theorem dX6_follows_102 : decode cX6_follows 102 = .ok (.iaload, 1) := by decide +kernel
theorem dX6_follows_103 : decode cX6_follows 103 = .ok (.ifCond .le 7, 3) := by decide +kernel
theorem dX6_follows_106 : decode cX6_follows 106 = .ok (.iconst 1, 1) := by decide +kernel
theorem dX6_follows_107 : decode cX6_follows 107 = .ok (.goto 4, 3) := by decide +kernel
theorem dX6_follows_110 : decode cX6_follows 110 = .ok (.iconst 0, 1) := by decide +kernel
theorem dX6_follows_111 : decode cX6_follows 111 = .ok (.istore 6, 2) := by decide +kernel
theorem dX6_follows_113 : decode cX6_follows 113 = .ok (.iload 6, 2) := by decide +kernel
theorem dX6_follows_115 : decode cX6_follows 115 = .ok (.ifCond .eq 21, 3) := by decide +kernel
theorem dX6_follows_118 : decode cX6_follows 118 = .ok (.iload 5, 2) := by decide +kernel
theorem dX6_follows_120 : decode cX6_follows 120 = .ok (.iconst (-1), 1) := by decide +kernel
theorem dX6_follows_121 : decode cX6_follows 121 = .ok (.if_icmp .eq 15, 3) := by decide +kernel
theorem dX6_follows_124 : decode cX6_follows 124 = .ok (.aload_n 0, 1) := by decide +kernel
theorem dX6_follows_125 : decode cX6_follows 125 = .ok (.iload 4, 2) := by decide +kernel
theorem dX6_follows_127 : decode cX6_follows 127 = .ok (.iload 5, 2) := by decide +kernel
theorem dX6_follows_129 : decode cX6_follows 129 = .ok (.invokevirtual 68, 3) := by decide +kernel
theorem dX6_follows_132 : decode cX6_follows 132 = .ok (.iload_n 3, 1) := by decide +kernel
theorem dX6_follows_133 : decode cX6_follows 133 = .ok (.if_icmp .eq 24, 3) := by decide +kernel
theorem dX6_follows_136 : decode cX6_follows 136 = .ok (.aload_n 0, 1) := by decide +kernel
theorem dX6_follows_137 : decode cX6_follows 137 = .ok (.dup, 1) := by decide +kernel
theorem dX6_follows_138 : decode cX6_follows 138 = .ok (.getfield 111, 3) := by decide +kernel
theorem dX6_follows_141 : decode cX6_follows 141 = .ok (.iconst 1, 1) := by decide +kernel
theorem dX6_follows_142 : decode cX6_follows 142 = .ok (.iadd, 1) := by decide +kernel
theorem dX6_follows_143 : decode cX6_follows 143 = .ok (.putfield 111, 3) := by decide +kernel
theorem dX6_follows_146 : decode cX6_follows 146 = .ok (.iload 6, 2) := by decide +kernel
theorem dX6_follows_148 : decode cX6_follows 148 = .ok (.ifCond .eq 7, 3) := by decide +kernel
theorem dX6_follows_151 : decode cX6_follows 151 = .ok (.iconst 2, 1) := by decide +kernel
theorem dX6_follows_152 : decode cX6_follows 152 = .ok (.goto 4, 3) := by decide +kernel
theorem dX6_follows_155 : decode cX6_follows 155 = .ok (.iconst 1, 1) := by decide +kernel
theorem dX6_follows_156 : decode cX6_follows 156 = .ok (.ireturn, 1) := by decide +kernel
theorem dX6_follows_157 : decode cX6_follows 157 = .ok (.aload_n 0, 1) := by decide +kernel
theorem dX6_follows_158 : decode cX6_follows 158 = .ok (.iload_n 1, 1) := by decide +kernel
theorem dX6_follows_159 : decode cX6_follows 159 = .ok (.iload 4, 2) := by decide +kernel
theorem dX6_follows_161 : decode cX6_follows 161 = .ok (.iload_n 2, 1) := by decide +kernel
theorem dX6_follows_162 : decode cX6_follows 162 = .ok (.invokevirtual 124, 3) := by decide +kernel
theorem dX6_follows_165 : decode cX6_follows 165 = .ok (.ifCond .eq 7, 3) := by decide +kernel
theorem dX6_follows_168 : decode cX6_follows 168 = .ok (.iconst 4, 1) := by decide +kernel
theorem dX6_follows_169 : decode cX6_follows 169 = .ok (.goto 4, 3) := by decide +kernel
theorem dX6_follows_172 : decode cX6_follows 172 = .ok (.iconst 3, 1) := by decide +kernel
theorem dX6_follows_173 : decode cX6_follows 173 = .ok (.ireturn, 1) := by decide +kernel
theorem dX6_follow_0 : decode cX6_follow 0 = .ok (.aload_n 0, 1) := by decide +kernel
theorem dX6_follow_1 : decode cX6_follow 1 = .ok (.iconst 0, 1) := by decide +kernel
theorem dX6_follow_2 : decode cX6_follow 2 = .ok (.putfield 57, 3) := by decide +kernel
theorem dX6_follow_5 : decode cX6_follow 5 = .ok (.aload_n 0, 1) := by decide +kernel
theorem dX6_follow_6 : decode cX6_follow 6 = .ok (.invokevirtual 128, 3) := by decide +kernel
theorem dX6_follow_9 : decode cX6_follow 9 = .ok (.ireturn, 1) := by decide +kernel
theorem dX6_followAll_0 : decode cX6_followAll 0 = .ok (.aload_n 0, 1) := by decide +kernel
theorem dX6_followAll_1 : decode cX6_followAll 1 = .ok (.iconst 0, 1) := by decide +kernel
theorem dX6_followAll_2 : decode cX6_followAll 2 = .ok (.putfield 57, 3) := by decide +kernel
theorem dX6_followAll_5 : decode cX6_followAll 5 = .ok (.iconst 0, 1) := by decide +kernel
theorem dX6_followAll_6 : decode cX6_followAll 6 = .ok (.istore_n 1, 1) := by decide +kernel
theorem dX6_followAll_7 : decode cX6_followAll 7 = .ok (.aload_n 0, 1) := by decide +kernel
theorem dX6_followAll_8 : decode cX6_followAll 8 = .ok (.invokevirtual 128, 3) := by decide +kernel
theorem dX6_followAll_11 : decode cX6_followAll 11 = .ok (.ifCond .eq 9, 3) := by decide +kernel
theorem dX6_followAll_14 : decode cX6_followAll 14 = .ok (.iinc 1 1, 3) := by decide +kernel
theorem dX6_followAll_17 : decode cX6_followAll 17 = .ok (.goto (-10), 3) := by decide +kernel
theorem dX6_followAll_20 : decode cX6_followAll 20 = .ok (.iload_n 1, 1) := by decide +kernel
theorem dX6_followAll_21 : decode cX6_followAll 21 = .ok (.ireturn, 1) := by decide +kernel
theorem dX6_queued_0 : decode cX6_queued 0 = .ok (.aload_n 0, 1) := by decide +kernel
theorem dX6_queued_1 : decode cX6_queued 1 = .ok (.iconst 0, 1) := by decide +kernel
theorem dX6_queued_2 : decode cX6_queued 2 = .ok (.putfield 57, 3) := by decide +kernel
theorem dX6_queued_5 : decode cX6_queued 5 = .ok (.aload_n 0, 1) := by decide +kernel
theorem dX6_queued_6 : decode cX6_queued 6 = .ok (.getfield 108, 3) := by decide +kernel
theorem dX6_queued_9 : decode cX6_queued 9 = .ok (.ireturn, 1) := by decide +kernel
theorem dX6_nextTo_0 : decode cX6_nextTo 0 = .ok (.aload_n 0, 1) := by decide +kernel
theorem dX6_nextTo_1 : decode cX6_nextTo 1 = .ok (.iconst 0, 1) := by decide +kernel
theorem dX6_nextTo_2 : decode cX6_nextTo 2 = .ok (.putfield 57, 3) := by decide +kernel
theorem dX6_nextTo_5 : decode cX6_nextTo 5 = .ok (.aload_n 0, 1) := by decide +kernel
theorem dX6_nextTo_6 : decode cX6_nextTo 6 = .ok (.getfield 108, 3) := by decide +kernel
theorem dX6_nextTo_9 : decode cX6_nextTo 9 = .ok (.ifCond .ne 7, 3) := by decide +kernel
theorem dX6_nextTo_12 : decode cX6_nextTo 12 = .ok (.iconst (-1), 1) := by decide +kernel
theorem dX6_nextTo_13 : decode cX6_nextTo 13 = .ok (.goto 9, 3) := by decide +kernel
theorem dX6_nextTo_16 : decode cX6_nextTo 16 = .ok (.aload_n 0, 1) := by decide +kernel
theorem dX6_nextTo_17 : decode cX6_nextTo 17 = .ok (.getfield 39, 3) := by decide +kernel
theorem dX6_nextTo_20 : decode cX6_nextTo 20 = .ok (.iconst 3, 1) := by decide +kernel
theorem dX6_nextTo_21 : decode cX6_nextTo 21 = .ok (.iaload, 1) := by decide +kernel
theorem dX6_nextTo_22 : decode cX6_nextTo 22 = .ok (.ireturn, 1) := by decide +kernel
theorem dX6_isPacket_0 : decode cX6_isPacket 0 = .ok (.aload_n 0, 1) := by decide +kernel
theorem dX6_isPacket_1 : decode cX6_isPacket 1 = .ok (.iload_n 1, 1) := by decide +kernel
theorem dX6_isPacket_2 : decode cX6_isPacket 2 = .ok (.ifCond .lt 15, 3) := by decide +kernel
theorem dX6_isPacket_5 : decode cX6_isPacket 5 = .ok (.iload_n 1, 1) := by decide +kernel
theorem dX6_isPacket_6 : decode cX6_isPacket 6 = .ok (.aload_n 0, 1) := by decide +kernel
theorem dX6_isPacket_7 : decode cX6_isPacket 7 = .ok (.getfield 121, 3) := by decide +kernel
theorem dX6_isPacket_10 : decode cX6_isPacket 10 = .ok (.if_icmp .ge 7, 3) := by decide +kernel
theorem dX6_isPacket_13 : decode cX6_isPacket 13 = .ok (.iconst 0, 1) := by decide +kernel
theorem dX6_isPacket_14 : decode cX6_isPacket 14 = .ok (.goto 4, 3) := by decide +kernel
theorem dX6_isPacket_17 : decode cX6_isPacket 17 = .ok (.iconst 1, 1) := by decide +kernel
theorem dX6_isPacket_18 : decode cX6_isPacket 18 = .ok (.invokevirtual 90, 3) := by decide +kernel
theorem dX6_isPacket_21 : decode cX6_isPacket 21 = .ok (.ireturn, 1) := by decide +kernel
theorem dX6_received_0 : decode cX6_received 0 = .ok (.aload_n 0, 1) := by decide +kernel
theorem dX6_received_1 : decode cX6_received 1 = .ok (.iload_n 1, 1) := by decide +kernel
theorem dX6_received_2 : decode cX6_received 2 = .ok (.invokevirtual 132, 3) := by decide +kernel
theorem dX6_received_5 : decode cX6_received 5 = .ok (.ifCond .eq 12, 3) := by decide +kernel
theorem dX6_received_8 : decode cX6_received 8 = .ok (.aload_n 0, 1) := by decide +kernel
theorem dX6_received_9 : decode cX6_received 9 = .ok (.getfield 48, 3) := by decide +kernel
theorem dX6_received_12 : decode cX6_received 12 = .ok (.iload_n 1, 1) := by decide +kernel
theorem dX6_received_13 : decode cX6_received 13 = .ok (.iaload, 1) := by decide +kernel
theorem dX6_received_14 : decode cX6_received 14 = .ok (.goto 4, 3) := by decide +kernel
theorem dX6_received_17 : decode cX6_received 17 = .ok (.iconst 0, 1) := by decide +kernel
theorem dX6_received_18 : decode cX6_received 18 = .ok (.ireturn, 1) := by decide +kernel
theorem dX6_doubles_0 : decode cX6_doubles 0 = .ok (.aload_n 0, 1) := by decide +kernel
theorem dX6_doubles_1 : decode cX6_doubles 1 = .ok (.iload_n 1, 1) := by decide +kernel
theorem dX6_doubles_2 : decode cX6_doubles 2 = .ok (.invokevirtual 132, 3) := by decide +kernel
theorem dX6_doubles_5 : decode cX6_doubles 5 = .ok (.ifCond .eq 12, 3) := by decide +kernel
theorem dX6_doubles_8 : decode cX6_doubles 8 = .ok (.aload_n 0, 1) := by decide +kernel
theorem dX6_doubles_9 : decode cX6_doubles 9 = .ok (.getfield 51, 3) := by decide +kernel
theorem dX6_doubles_12 : decode cX6_doubles 12 = .ok (.iload_n 1, 1) := by decide +kernel
theorem dX6_doubles_13 : decode cX6_doubles 13 = .ok (.iaload, 1) := by decide +kernel
theorem dX6_doubles_14 : decode cX6_doubles 14 = .ok (.goto 4, 3) := by decide +kernel
theorem dX6_doubles_17 : decode cX6_doubles 17 = .ok (.iconst 0, 1) := by decide +kernel
theorem dX6_doubles_18 : decode cX6_doubles 18 = .ok (.ireturn, 1) := by decide +kernel
theorem dX6_wasted_0 : decode cX6_wasted 0 = .ok (.aload_n 0, 1) := by decide +kernel
theorem dX6_wasted_1 : decode cX6_wasted 1 = .ok (.iconst 0, 1) := by decide +kernel
theorem dX6_wasted_2 : decode cX6_wasted 2 = .ok (.putfield 57, 3) := by decide +kernel
theorem dX6_wasted_5 : decode cX6_wasted 5 = .ok (.aload_n 0, 1) := by decide +kernel
theorem dX6_wasted_6 : decode cX6_wasted 6 = .ok (.getfield 111, 3) := by decide +kernel
theorem dX6_wasted_9 : decode cX6_wasted 9 = .ok (.ireturn, 1) := by decide +kernel
theorem dX6_second_0 : decode cX6_second 0 = .ok (.iconst 0, 1) := by decide +kernel
theorem dX6_second_1 : decode cX6_second 1 = .ok (.istore_n 1, 1) := by decide +kernel
theorem dX6_second_2 : decode cX6_second 2 = .ok (.aload_n 0, 1) := by decide +kernel
theorem dX6_second_3 : decode cX6_second 3 = .ok (.dup, 1) := by decide +kernel
theorem dX6_second_4 : decode cX6_second 4 = .ok (.getfield 79, 3) := by decide +kernel
theorem dX6_second_7 : decode cX6_second 7 = .ok (.iconst 1, 1) := by decide +kernel
theorem dX6_second_8 : decode cX6_second 8 = .ok (.iadd, 1) := by decide +kernel
theorem dX6_second_9 : decode cX6_second 9 = .ok (.putfield 79, 3) := by decide +kernel
theorem dX6_second_12 : decode cX6_second 12 = .ok (.iconst 0, 1) := by decide +kernel
theorem dX6_second_13 : decode cX6_second 13 = .ok (.istore_n 2, 1) := by decide +kernel
theorem dX6_second_14 : decode cX6_second 14 = .ok (.iload_n 2, 1) := by decide +kernel
theorem dX6_second_15 : decode cX6_second 15 = .ok (.bipush 44, 2) := by decide +kernel
theorem dX6_second_17 : decode cX6_second 17 = .ok (.if_icmp .ge 114, 3) := by decide +kernel
theorem dX6_second_20 : decode cX6_second 20 = .ok (.iconst 0, 1) := by decide +kernel
theorem dX6_second_21 : decode cX6_second 21 = .ok (.istore_n 3, 1) := by decide +kernel
theorem dX6_second_22 : decode cX6_second 22 = .ok (.iconst 0, 1) := by decide +kernel
theorem dX6_second_23 : decode cX6_second 23 = .ok (.istore 4, 2) := by decide +kernel
theorem dX6_second_25 : decode cX6_second 25 = .ok (.iload 4, 2) := by decide +kernel
theorem dX6_second_27 : decode cX6_second 27 = .ok (.bipush 10, 2) := by decide +kernel
theorem dX6_second_29 : decode cX6_second 29 = .ok (.if_icmp .ge 63, 3) := by decide +kernel
theorem dX6_second_32 : decode cX6_second 32 = .ok (.bipush 10, 2) := by decide +kernel
theorem dX6_second_34 : decode cX6_second 34 = .ok (.iload_n 2, 1) := by decide +kernel
theorem dX6_second_35 : decode cX6_second 35 = .ok (.imul, 1) := by decide +kernel
theorem dX6_second_36 : decode cX6_second 36 = .ok (.iload 4, 2) := by decide +kernel
theorem dX6_second_38 : decode cX6_second 38 = .ok (.iadd, 1) := by decide +kernel
theorem dX6_second_39 : decode cX6_second 39 = .ok (.istore 5, 2) := by decide +kernel
theorem dX6_second_41 : decode cX6_second 41 = .ok (.aload_n 0, 1) := by decide +kernel
theorem dX6_second_42 : decode cX6_second 42 = .ok (.getfield 36, 3) := by decide +kernel
theorem dX6_second_45 : decode cX6_second 45 = .ok (.iload 5, 2) := by decide +kernel
theorem dX6_second_47 : decode cX6_second 47 = .ok (.iaload, 1) := by decide +kernel
theorem dX6_second_48 : decode cX6_second 48 = .ok (.aload_n 0, 1) := by decide +kernel
theorem dX6_second_49 : decode cX6_second 49 = .ok (.getfield 79, 3) := by decide +kernel
theorem dX6_second_52 : decode cX6_second 52 = .ok (.if_icmp .ne 34, 3) := by decide +kernel
theorem dX6_second_55 : decode cX6_second 55 = .ok (.iload_n 3, 1) := by decide +kernel
theorem dX6_second_56 : decode cX6_second 56 = .ok (.iconst 1, 1) := by decide +kernel
theorem dX6_second_57 : decode cX6_second 57 = .ok (.aload_n 0, 1) := by decide +kernel
theorem dX6_second_58 : decode cX6_second 58 = .ok (.getfield 33, 3) := by decide +kernel
theorem dX6_second_61 : decode cX6_second 61 = .ok (.iload 5, 2) := by decide +kernel
theorem dX6_second_63 : decode cX6_second 63 = .ok (.iaload, 1) := by decide +kernel
theorem dX6_second_64 : decode cX6_second 64 = .ok (.ishl, 1) := by decide +kernel
theorem dX6_second_65 : decode cX6_second 65 = .ok (.ior, 1) := by decide +kernel
theorem dX6_second_66 : decode cX6_second 66 = .ok (.istore_n 3, 1) := by decide +kernel
theorem dX6_second_67 : decode cX6_second 67 = .ok (.aload_n 0, 1) := by decide +kernel
theorem dX6_second_68 : decode cX6_second 68 = .ok (.getfield 33, 3) := by decide +kernel
theorem dX6_second_71 : decode cX6_second 71 = .ok (.iload 5, 2) := by decide +kernel
theorem dX6_second_73 : decode cX6_second 73 = .ok (.iconst (-1), 1) := by decide +kernel
theorem dX6_second_74 : decode cX6_second 74 = .ok (.iastore, 1) := by decide +kernel
theorem dX6_second_75 : decode cX6_second 75 = .ok (.aload_n 0, 1) := by decide +kernel
theorem dX6_second_76 : decode cX6_second 76 = .ok (.getfield 36, 3) := by decide +kernel
theorem dX6_second_79 : decode cX6_second 79 = .ok (.iload 5, 2) := by decide +kernel
theorem dX6_second_81 : decode cX6_second 81 = .ok (.iconst (-1), 1) := by decide +kernel
theorem dX6_second_82 : decode cX6_second 82 = .ok (.iastore, 1) := by decide +kernel
theorem dX6_second_83 : decode cX6_second 83 = .ok (.iinc 1 1, 3) := by decide +kernel
theorem dX6_second_86 : decode cX6_second 86 = .ok (.iinc 4 1, 3) := by decide +kernel
theorem dX6_second_89 : decode cX6_second 89 = .ok (.goto (-64), 3) := by decide +kernel
theorem dX6_second_92 : decode cX6_second 92 = .ok (.iconst 0, 1) := by decide +kernel
theorem dX6_second_93 : decode cX6_second 93 = .ok (.istore 4, 2) := by decide +kernel
theorem dX6_second_95 : decode cX6_second 95 = .ok (.iload 4, 2) := by decide +kernel
theorem dX6_second_97 : decode cX6_second 97 = .ok (.bipush 10, 2) := by decide +kernel
theorem dX6_second_99 : decode cX6_second 99 = .ok (.if_icmp .ge 26, 3) := by decide +kernel
theorem dX6_second_102 : decode cX6_second 102 = .ok (.iload_n 3, 1) := by decide +kernel
theorem dX6_second_103 : decode cX6_second 103 = .ok (.iload 4, 2) := by decide +kernel
theorem dX6_second_105 : decode cX6_second 105 = .ok (.ishr, 1) := by decide +kernel
theorem dX6_second_106 : decode cX6_second 106 = .ok (.iconst 1, 1) := by decide +kernel
theorem dX6_second_107 : decode cX6_second 107 = .ok (.iand, 1) := by decide +kernel
theorem dX6_second_108 : decode cX6_second 108 = .ok (.iconst 1, 1) := by decide +kernel
theorem dX6_second_109 : decode cX6_second 109 = .ok (.if_icmp .ne 10, 3) := by decide +kernel
theorem dX6_second_112 : decode cX6_second 112 = .ok (.aload_n 0, 1) := by decide +kernel
theorem dX6_second_113 : decode cX6_second 113 = .ok (.iload_n 2, 1) := by decide +kernel
theorem dX6_second_114 : decode cX6_second 114 = .ok (.iload 4, 2) := by decide +kernel
theorem dX6_second_116 : decode cX6_second 116 = .ok (.invokevirtual 105, 3) := by decide +kernel
theorem dX6_second_119 : decode cX6_second 119 = .ok (.iinc 4 1, 3) := by decide +kernel
theorem dX6_second_122 : decode cX6_second 122 = .ok (.goto (-27), 3) := by decide +kernel
theorem dX6_second_125 : decode cX6_second 125 = .ok (.iinc 2 1, 3) := by decide +kernel
theorem dX6_second_128 : decode cX6_second 128 = .ok (.goto (-114), 3) := by decide +kernel
theorem dX6_second_131 : decode cX6_second 131 = .ok (.iload_n 1, 1) := by decide +kernel
theorem dX6_second_132 : decode cX6_second 132 = .ok (.ireturn, 1) := by decide +kernel
theorem dX6_pass_0 : decode cX6_pass 0 = .ok (.aload_n 0, 1) := by decide +kernel
theorem dX6_pass_1 : decode cX6_pass 1 = .ok (.iload_n 1, 1) := by decide +kernel
theorem dX6_pass_2 : decode cX6_pass 2 = .ok (.iconst 1, 1) := by decide +kernel
theorem dX6_pass_3 : decode cX6_pass 3 = .ok (.if_icmp .lt 9, 3) := by decide +kernel
theorem dX6_pass_6 : decode cX6_pass 6 = .ok (.iload_n 1, 1) := by decide +kernel
theorem dX6_pass_7 : decode cX6_pass 7 = .ok (.bipush 100, 2) := by decide +kernel
theorem dX6_pass_9 : decode cX6_pass 9 = .ok (.if_icmp .le 7, 3) := by decide +kernel
theorem dX6_pass_12 : decode cX6_pass 12 = .ok (.iconst 1, 1) := by decide +kernel
theorem dX6_pass_13 : decode cX6_pass 13 = .ok (.goto 4, 3) := by decide +kernel
theorem dX6_pass_16 : decode cX6_pass 16 = .ok (.iconst 0, 1) := by decide +kernel
theorem dX6_pass_17 : decode cX6_pass 17 = .ok (.invokevirtual 90, 3) := by decide +kernel
theorem dX6_pass_20 : decode cX6_pass 20 = .ok (.ifCond .ne 5, 3) := by decide +kernel
theorem dX6_pass_23 : decode cX6_pass 23 = .ok (.iconst 0, 1) := by decide +kernel
theorem dX6_pass_24 : decode cX6_pass 24 = .ok (.ireturn, 1) := by decide +kernel
theorem dX6_pass_25 : decode cX6_pass 25 = .ok (.iconst 0, 1) := by decide +kernel
theorem dX6_pass_26 : decode cX6_pass 26 = .ok (.istore_n 2, 1) := by decide +kernel
theorem dX6_pass_27 : decode cX6_pass 27 = .ok (.aload_n 0, 1) := by decide +kernel
theorem dX6_pass_28 : decode cX6_pass 28 = .ok (.getfield 79, 3) := by decide +kernel
theorem dX6_pass_31 : decode cX6_pass 31 = .ok (.bipush 10, 2) := by decide +kernel
theorem dX6_pass_33 : decode cX6_pass 33 = .ok (.idiv, 1) := by decide +kernel
theorem dX6_pass_34 : decode cX6_pass 34 = .ok (.istore_n 3, 1) := by decide +kernel
theorem dX6_pass_35 : decode cX6_pass 35 = .ok (.iconst 0, 1) := by decide +kernel
theorem dX6_pass_36 : decode cX6_pass 36 = .ok (.istore 4, 2) := by decide +kernel
theorem dX6_pass_38 : decode cX6_pass 38 = .ok (.iload 4, 2) := by decide +kernel
theorem dX6_pass_40 : decode cX6_pass 40 = .ok (.iload_n 1, 1) := by decide +kernel
theorem dX6_pass_41 : decode cX6_pass 41 = .ok (.if_icmp .ge 16, 3) := by decide +kernel
theorem dX6_pass_44 : decode cX6_pass 44 = .ok (.iload_n 2, 1) := by decide +kernel
theorem dX6_pass_45 : decode cX6_pass 45 = .ok (.aload_n 0, 1) := by decide +kernel
theorem dX6_pass_46 : decode cX6_pass 46 = .ok (.invokevirtual 135, 3) := by decide +kernel
theorem dX6_pass_49 : decode cX6_pass 49 = .ok (.iadd, 1) := by decide +kernel
theorem dX6_pass_50 : decode cX6_pass 50 = .ok (.istore_n 2, 1) := by decide +kernel
theorem dX6_pass_51 : decode cX6_pass 51 = .ok (.iinc 4 1, 3) := by decide +kernel
theorem dX6_pass_54 : decode cX6_pass 54 = .ok (.goto (-16), 3) := by decide +kernel
theorem dX6_pass_57 : decode cX6_pass 57 = .ok (.iconst 0, 1) := by decide +kernel
theorem dX6_pass_58 : decode cX6_pass 58 = .ok (.istore 4, 2) := by decide +kernel
theorem dX6_pass_60 : decode cX6_pass 60 = .ok (.iload 4, 2) := by decide +kernel
theorem dX6_pass_62 : decode cX6_pass 62 = .ok (.sipush 400, 3) := by decide +kernel
theorem dX6_pass_65 : decode cX6_pass 65 = .ok (.if_icmp .ge 28, 3) := by decide +kernel
theorem dX6_pass_68 : decode cX6_pass 68 = .ok (.aload_n 0, 1) := by decide +kernel
theorem dX6_pass_69 : decode cX6_pass 69 = .ok (.getfield 79, 3) := by decide +kernel
theorem dX6_pass_72 : decode cX6_pass 72 = .ok (.bipush 10, 2) := by decide +kernel
theorem dX6_pass_74 : decode cX6_pass 74 = .ok (.idiv, 1) := by decide +kernel
theorem dX6_pass_75 : decode cX6_pass 75 = .ok (.iload_n 3, 1) := by decide +kernel
theorem dX6_pass_76 : decode cX6_pass 76 = .ok (.if_icmp .le 17, 3) := by decide +kernel
theorem dX6_pass_79 : decode cX6_pass 79 = .ok (.aload_n 0, 1) := by decide +kernel
theorem dX6_pass_80 : decode cX6_pass 80 = .ok (.getfield 30, 3) := by decide +kernel
theorem dX6_pass_83 : decode cX6_pass 83 = .ok (.iload 4, 2) := by decide +kernel
theorem dX6_pass_85 : decode cX6_pass 85 = .ok (.iconst 0, 1) := by decide +kernel
theorem dX6_pass_86 : decode cX6_pass 86 = .ok (.iastore, 1) := by decide +kernel
theorem dX6_pass_87 : decode cX6_pass 87 = .ok (.iinc 4 1, 3) := by decide +kernel
theorem dX6_pass_90 : decode cX6_pass 90 = .ok (.goto (-30), 3) := by decide +kernel
theorem dX6_pass_93 : decode cX6_pass 93 = .ok (.iload_n 2, 1) := by decide +kernel
theorem dX6_pass_94 : decode cX6_pass 94 = .ok (.ireturn, 1) := by decide +kernel
theorem dX6_clock_0 : decode cX6_clock 0 = .ok (.aload_n 0, 1) := by decide +kernel
theorem dX6_clock_1 : decode cX6_clock 1 = .ok (.iconst 0, 1) := by decide +kernel
theorem dX6_clock_2 : decode cX6_clock 2 = .ok (.putfield 57, 3) := by decide +kernel
theorem dX6_clock_5 : decode cX6_clock 5 = .ok (.aload_n 0, 1) := by decide +kernel
theorem dX6_clock_6 : decode cX6_clock 6 = .ok (.getfield 79, 3) := by decide +kernel
theorem dX6_clock_9 : decode cX6_clock 9 = .ok (.ireturn, 1) := by decide +kernel
theorem dX6_floodMembers_0 : decode cX6_floodMembers 0 = .ok (.aload_n 0, 1) := by decide +kernel
theorem dX6_floodMembers_1 : decode cX6_floodMembers 1 = .ok (.iload_n 1, 1) := by decide +kernel
theorem dX6_floodMembers_2 : decode cX6_floodMembers 2 = .ok (.invokestatic 86, 3) := by decide +kernel
theorem dX6_floodMembers_5 : decode cX6_floodMembers 5 = .ok (.ifCond .eq 14, 3) := by decide +kernel
theorem dX6_floodMembers_8 : decode cX6_floodMembers 8 = .ok (.iload_n 2, 1) := by decide +kernel
theorem dX6_floodMembers_9 : decode cX6_floodMembers 9 = .ok (.invokestatic 96, 3) := by decide +kernel
theorem dX6_floodMembers_12 : decode cX6_floodMembers 12 = .ok (.ifCond .eq 7, 3) := by decide +kernel
theorem dX6_floodMembers_15 : decode cX6_floodMembers 15 = .ok (.iconst 0, 1) := by decide +kernel
theorem dX6_floodMembers_16 : decode cX6_floodMembers 16 = .ok (.goto 4, 3) := by decide +kernel
theorem dX6_floodMembers_19 : decode cX6_floodMembers 19 = .ok (.iconst 1, 1) := by decide +kernel
theorem dX6_floodMembers_20 : decode cX6_floodMembers 20 = .ok (.invokevirtual 90, 3) := by decide +kernel
theorem dX6_floodMembers_23 : decode cX6_floodMembers 23 = .ok (.ifCond .ne 5, 3) := by decide +kernel
theorem dX6_floodMembers_26 : decode cX6_floodMembers 26 = .ok (.iconst 0, 1) := by decide +kernel
theorem dX6_floodMembers_27 : decode cX6_floodMembers 27 = .ok (.ireturn, 1) := by decide +kernel
theorem dX6_floodMembers_28 : decode cX6_floodMembers 28 = .ok (.iconst 0, 1) := by decide +kernel
theorem dX6_floodMembers_29 : decode cX6_floodMembers 29 = .ok (.istore_n 3, 1) := by decide +kernel
theorem dX6_floodMembers_30 : decode cX6_floodMembers 30 = .ok (.iconst 0, 1) := by decide +kernel
theorem dX6_floodMembers_31 : decode cX6_floodMembers 31 = .ok (.istore 4, 2) := by decide +kernel
theorem dX6_floodMembers_33 : decode cX6_floodMembers 33 = .ok (.iload 4, 2) := by decide +kernel
theorem dX6_floodMembers_35 : decode cX6_floodMembers 35 = .ok (.bipush 10, 2) := by decide +kernel
theorem dX6_floodMembers_37 : decode cX6_floodMembers 37 = .ok (.if_icmp .ge 37, 3) := by decide +kernel
theorem dX6_floodMembers_40 : decode cX6_floodMembers 40 = .ok (.iload_n 3, 1) := by decide +kernel
theorem dX6_floodMembers_41 : decode cX6_floodMembers 41 = .ok (.aload_n 0, 1) := by decide +kernel
theorem dX6_floodMembers_42 : decode cX6_floodMembers 42 = .ok (.getfield 17, 3) := by decide +kernel
theorem dX6_floodMembers_45 : decode cX6_floodMembers 45 = .ok (.bipush 10, 2) := by decide +kernel
theorem dX6_floodMembers_47 : decode cX6_floodMembers 47 = .ok (.iload_n 1, 1) := by decide +kernel
theorem dX6_floodMembers_48 : decode cX6_floodMembers 48 = .ok (.imul, 1) := by decide +kernel
theorem dX6_floodMembers_49 : decode cX6_floodMembers 49 = .ok (.iload 4, 2) := by decide +kernel
theorem dX6_floodMembers_51 : decode cX6_floodMembers 51 = .ok (.iadd, 1) := by decide +kernel
theorem dX6_floodMembers_52 : decode cX6_floodMembers 52 = .ok (.iaload, 1) := by decide +kernel
theorem dX6_floodMembers_53 : decode cX6_floodMembers 53 = .ok (.ldc 60, 2) := by decide +kernel
theorem dX6_floodMembers_55 : decode cX6_floodMembers 55 = .ok (.if_icmp .ge 10, 3) := by decide +kernel
theorem dX6_floodMembers_58 : decode cX6_floodMembers 58 = .ok (.iconst 1, 1) := by decide +kernel
theorem dX6_floodMembers_59 : decode cX6_floodMembers 59 = .ok (.iload 4, 2) := by decide +kernel
theorem dX6_floodMembers_61 : decode cX6_floodMembers 61 = .ok (.ishl, 1) := by decide +kernel
theorem dX6_floodMembers_62 : decode cX6_floodMembers 62 = .ok (.goto 4, 3) := by decide +kernel
theorem dX6_floodMembers_65 : decode cX6_floodMembers 65 = .ok (.iconst 0, 1) := by decide +kernel
theorem dX6_floodMembers_66 : decode cX6_floodMembers 66 = .ok (.ior, 1) := by decide +kernel
theorem dX6_floodMembers_67 : decode cX6_floodMembers 67 = .ok (.istore_n 3, 1) := by decide +kernel
theorem dX6_floodMembers_68 : decode cX6_floodMembers 68 = .ok (.iinc 4 1, 3) := by decide +kernel
theorem dX6_floodMembers_71 : decode cX6_floodMembers 71 = .ok (.goto (-38), 3) := by decide +kernel
theorem dX6_floodMembers_74 : decode cX6_floodMembers 74 = .ok (.iload_n 3, 1) := by decide +kernel
theorem dX6_floodMembers_75 : decode cX6_floodMembers 75 = .ok (.aload_n 0, 1) := by decide +kernel
theorem dX6_floodMembers_76 : decode cX6_floodMembers 76 = .ok (.getfield 24, 3) := by decide +kernel
theorem dX6_floodMembers_79 : decode cX6_floodMembers 79 = .ok (.iload_n 2, 1) := by decide +kernel
theorem dX6_floodMembers_80 : decode cX6_floodMembers 80 = .ok (.iaload, 1) := by decide +kernel
theorem dX6_floodMembers_81 : decode cX6_floodMembers 81 = .ok (.iand, 1) := by decide +kernel
theorem dX6_floodMembers_82 : decode cX6_floodMembers 82 = .ok (.ireturn, 1) := by decide +kernel
theorem dX6_floodCopies_0 : decode cX6_floodCopies 0 = .ok (.aload_n 0, 1) := by decide +kernel
theorem dX6_floodCopies_1 : decode cX6_floodCopies 1 = .ok (.iload_n 1, 1) := by decide +kernel
theorem dX6_floodCopies_2 : decode cX6_floodCopies 2 = .ok (.invokestatic 86, 3) := by decide +kernel
theorem dX6_floodCopies_5 : decode cX6_floodCopies 5 = .ok (.ifCond .eq 7, 3) := by decide +kernel
theorem dX6_floodCopies_8 : decode cX6_floodCopies 8 = .ok (.iconst 0, 1) := by decide +kernel
theorem dX6_floodCopies_9 : decode cX6_floodCopies 9 = .ok (.goto 4, 3) := by decide +kernel
theorem dX6_floodCopies_12 : decode cX6_floodCopies 12 = .ok (.iconst 1, 1) := by decide +kernel
theorem dX6_floodCopies_13 : decode cX6_floodCopies 13 = .ok (.invokevirtual 90, 3) := by decide +kernel
theorem dX6_floodCopies_16 : decode cX6_floodCopies 16 = .ok (.ifCond .ne 5, 3) := by decide +kernel
theorem dX6_floodCopies_19 : decode cX6_floodCopies 19 = .ok (.iconst 0, 1) := by decide +kernel
theorem dX6_floodCopies_20 : decode cX6_floodCopies 20 = .ok (.ireturn, 1) := by decide +kernel
theorem dX6_floodCopies_21 : decode cX6_floodCopies 21 = .ok (.iconst 0, 1) := by decide +kernel
theorem dX6_floodCopies_22 : decode cX6_floodCopies 22 = .ok (.istore_n 2, 1) := by decide +kernel
theorem dX6_floodCopies_23 : decode cX6_floodCopies 23 = .ok (.iconst 0, 1) := by decide +kernel
theorem dX6_floodCopies_24 : decode cX6_floodCopies 24 = .ok (.istore_n 3, 1) := by decide +kernel
theorem dX6_floodCopies_25 : decode cX6_floodCopies 25 = .ok (.iload_n 3, 1) := by decide +kernel
theorem dX6_floodCopies_26 : decode cX6_floodCopies 26 = .ok (.bipush 10, 2) := by decide +kernel
theorem dX6_floodCopies_28 : decode cX6_floodCopies 28 = .ok (.if_icmp .ge 90, 3) := by decide +kernel
theorem dX6_floodCopies_31 : decode cX6_floodCopies 31 = .ok (.iconst 0, 1) := by decide +kernel
theorem dX6_floodCopies_32 : decode cX6_floodCopies 32 = .ok (.istore 4, 2) := by decide +kernel
theorem dX6_floodCopies_34 : decode cX6_floodCopies 34 = .ok (.iconst 0, 1) := by decide +kernel
theorem dX6_floodCopies_35 : decode cX6_floodCopies 35 = .ok (.istore 5, 2) := by decide +kernel
theorem dX6_floodCopies_37 : decode cX6_floodCopies 37 = .ok (.iload 5, 2) := by decide +kernel
theorem dX6_floodCopies_39 : decode cX6_floodCopies 39 = .ok (.bipush 10, 2) := by decide +kernel
theorem dX6_floodCopies_41 : decode cX6_floodCopies 41 = .ok (.if_icmp .ge 34, 3) := by decide +kernel
theorem dX6_floodCopies_44 : decode cX6_floodCopies 44 = .ok (.iload 4, 2) := by decide +kernel
theorem dX6_floodCopies_46 : decode cX6_floodCopies 46 = .ok (.aload_n 0, 1) := by decide +kernel
theorem dX6_floodCopies_47 : decode cX6_floodCopies 47 = .ok (.getfield 13, 3) := by decide +kernel
theorem dX6_floodCopies_50 : decode cX6_floodCopies 50 = .ok (.bipush 10, 2) := by decide +kernel
theorem dX6_floodCopies_52 : decode cX6_floodCopies 52 = .ok (.iload_n 3, 1) := by decide +kernel
theorem dX6_floodCopies_53 : decode cX6_floodCopies 53 = .ok (.imul, 1) := by decide +kernel
theorem dX6_floodCopies_54 : decode cX6_floodCopies 54 = .ok (.iload 5, 2) := by decide +kernel
theorem dX6_floodCopies_56 : decode cX6_floodCopies 56 = .ok (.iadd, 1) := by decide +kernel
theorem dX6_floodCopies_57 : decode cX6_floodCopies 57 = .ok (.iaload, 1) := by decide +kernel
theorem dX6_floodCopies_58 : decode cX6_floodCopies 58 = .ok (.ifCond .le 7, 3) := by decide +kernel
theorem dX6_floodCopies_61 : decode cX6_floodCopies 61 = .ok (.iconst 1, 1) := by decide +kernel
theorem dX6_floodCopies_62 : decode cX6_floodCopies 62 = .ok (.goto 4, 3) := by decide +kernel
theorem dX6_floodCopies_65 : decode cX6_floodCopies 65 = .ok (.iconst 0, 1) := by decide +kernel
theorem dX6_floodCopies_66 : decode cX6_floodCopies 66 = .ok (.iadd, 1) := by decide +kernel
theorem dX6_floodCopies_67 : decode cX6_floodCopies 67 = .ok (.istore 4, 2) := by decide +kernel
theorem dX6_floodCopies_69 : decode cX6_floodCopies 69 = .ok (.iinc 5 1, 3) := by decide +kernel
theorem dX6_floodCopies_72 : decode cX6_floodCopies 72 = .ok (.goto (-35), 3) := by decide +kernel
theorem dX6_floodCopies_75 : decode cX6_floodCopies 75 = .ok (.iload_n 2, 1) := by decide +kernel
theorem dX6_floodCopies_76 : decode cX6_floodCopies 76 = .ok (.aload_n 0, 1) := by decide +kernel
theorem dX6_floodCopies_77 : decode cX6_floodCopies 77 = .ok (.getfield 17, 3) := by decide +kernel
theorem dX6_floodCopies_80 : decode cX6_floodCopies 80 = .ok (.bipush 10, 2) := by decide +kernel
theorem dX6_floodCopies_82 : decode cX6_floodCopies 82 = .ok (.iload_n 1, 1) := by decide +kernel
theorem dX6_floodCopies_83 : decode cX6_floodCopies 83 = .ok (.imul, 1) := by decide +kernel
theorem dX6_floodCopies_84 : decode cX6_floodCopies 84 = .ok (.iload_n 3, 1) := by decide +kernel
theorem dX6_floodCopies_85 : decode cX6_floodCopies 85 = .ok (.iadd, 1) := by decide +kernel
theorem dX6_floodCopies_86 : decode cX6_floodCopies 86 = .ok (.iaload, 1) := by decide +kernel
theorem dX6_floodCopies_87 : decode cX6_floodCopies 87 = .ok (.ldc 60, 2) := by decide +kernel
theorem dX6_floodCopies_89 : decode cX6_floodCopies 89 = .ok (.if_icmp .ne 7, 3) := by decide +kernel
theorem dX6_floodCopies_92 : decode cX6_floodCopies 92 = .ok (.iconst 0, 1) := by decide +kernel
theorem dX6_floodCopies_93 : decode cX6_floodCopies 93 = .ok (.goto 17, 3) := by decide +kernel
theorem dX6_floodCopies_96 : decode cX6_floodCopies 96 = .ok (.iload_n 3, 1) := by decide +kernel
theorem dX6_floodCopies_97 : decode cX6_floodCopies 97 = .ok (.iload_n 1, 1) := by decide +kernel
theorem dX6_floodCopies_98 : decode cX6_floodCopies 98 = .ok (.if_icmp .ne 8, 3) := by decide +kernel
theorem dX6_floodCopies_101 : decode cX6_floodCopies 101 = .ok (.iload 4, 2) := by decide +kernel
theorem dX6_floodCopies_103 : decode cX6_floodCopies 103 = .ok (.goto 7, 3) := by decide +kernel
theorem dX6_floodCopies_106 : decode cX6_floodCopies 106 = .ok (.iload 4, 2) := by decide +kernel
theorem dX6_floodCopies_108 : decode cX6_floodCopies 108 = .ok (.iconst 1, 1) := by decide +kernel
theorem dX6_floodCopies_109 : decode cX6_floodCopies 109 = .ok (.isub, 1) := by decide +kernel
theorem dX6_floodCopies_110 : decode cX6_floodCopies 110 = .ok (.iadd, 1) := by decide +kernel
theorem dX6_floodCopies_111 : decode cX6_floodCopies 111 = .ok (.istore_n 2, 1) := by decide +kernel
theorem dX6_floodCopies_112 : decode cX6_floodCopies 112 = .ok (.iinc 3 1, 3) := by decide +kernel
theorem dX6_floodCopies_115 : decode cX6_floodCopies 115 = .ok (.goto (-90), 3) := by decide +kernel
theorem dX6_floodCopies_118 : decode cX6_floodCopies 118 = .ok (.iload_n 2, 1) := by decide +kernel
theorem dX6_floodCopies_119 : decode cX6_floodCopies 119 = .ok (.ireturn, 1) := by decide +kernel
