theorem dL_draw_0 : decode cL_draw 0 = .ok (.iload_n 1, 1) := by decide +kernel
theorem dL_draw_1 : decode cL_draw 1 = .ok (.aload_n 0, 1) := by decide +kernel
theorem dL_draw_2 : decode cL_draw 2 = .ok (.arraylength, 1) := by decide +kernel
theorem dL_draw_3 : decode cL_draw 3 = .ok (.if_icmp .ge 9, 3) := by decide +kernel
theorem dL_draw_6 : decode cL_draw 6 = .ok (.aload_n 0, 1) := by decide +kernel
theorem dL_draw_7 : decode cL_draw 7 = .ok (.iload_n 1, 1) := by decide +kernel
theorem dL_draw_8 : decode cL_draw 8 = .ok (.iaload, 1) := by decide +kernel
theorem dL_draw_9 : decode cL_draw 9 = .ok (.goto 13, 3) := by decide +kernel
theorem dL_draw_12 : decode cL_draw 12 = .ok (.ldc 7, 2) := by decide +kernel
theorem dL_draw_14 : decode cL_draw 14 = .ok (.iload_n 1, 1) := by decide +kernel
theorem dL_draw_15 : decode cL_draw 15 = .ok (.bipush 37, 2) := by decide +kernel
theorem dL_draw_17 : decode cL_draw 17 = .ok (.iadd, 1) := by decide +kernel
theorem dL_draw_18 : decode cL_draw 18 = .ok (.imul, 1) := by decide +kernel
theorem dL_draw_19 : decode cL_draw 19 = .ok (.ldc 8, 2) := by decide +kernel
theorem dL_draw_21 : decode cL_draw 21 = .ok (.iadd, 1) := by decide +kernel
theorem dL_draw_22 : decode cL_draw 22 = .ok (.istore_n 3, 1) := by decide +kernel
theorem dL_draw_23 : decode cL_draw 23 = .ok (.iload_n 3, 1) := by decide +kernel
theorem dL_draw_24 : decode cL_draw 24 = .ok (.ldc 9, 2) := by decide +kernel
theorem dL_draw_26 : decode cL_draw 26 = .ok (.iand, 1) := by decide +kernel
theorem dL_draw_27 : decode cL_draw 27 = .ok (.iload_n 2, 1) := by decide +kernel
theorem dL_draw_28 : decode cL_draw 28 = .ok (.irem, 1) := by decide +kernel
theorem dL_draw_29 : decode cL_draw 29 = .ok (.ireturn, 1) := by decide +kernel
theorem dL_at_0 : decode cL_at 0 = .ok (.iload_n 0, 1) := by decide +kernel
theorem dL_at_1 : decode cL_at 1 = .ok (.iload_n 1, 1) := by decide +kernel
theorem dL_at_2 : decode cL_at 2 = .ok (.if_icmp .ge 7, 3) := by decide +kernel
theorem dL_at_5 : decode cL_at 5 = .ok (.iload_n 0, 1) := by decide +kernel
theorem dL_at_6 : decode cL_at 6 = .ok (.goto 4, 3) := by decide +kernel
theorem dL_at_9 : decode cL_at 9 = .ok (.iload_n 1, 1) := by decide +kernel
theorem dL_at_10 : decode cL_at 10 = .ok (.istore_n 2, 1) := by decide +kernel
theorem dL_at_11 : decode cL_at 11 = .ok (.iload_n 0, 1) := by decide +kernel
theorem dL_at_12 : decode cL_at 12 = .ok (.iload_n 1, 1) := by decide +kernel
theorem dL_at_13 : decode cL_at 13 = .ok (.if_icmp .ge 7, 3) := by decide +kernel
theorem dL_at_16 : decode cL_at 16 = .ok (.iload_n 1, 1) := by decide +kernel
theorem dL_at_17 : decode cL_at 17 = .ok (.goto 4, 3) := by decide +kernel
theorem dL_at_20 : decode cL_at 20 = .ok (.iload_n 0, 1) := by decide +kernel
theorem dL_at_21 : decode cL_at 21 = .ok (.istore_n 3, 1) := by decide +kernel
theorem dL_at_22 : decode cL_at 22 = .ok (.iload_n 3, 1) := by decide +kernel
theorem dL_at_23 : decode cL_at 23 = .ok (.iload_n 3, 1) := by decide +kernel
theorem dL_at_24 : decode cL_at 24 = .ok (.iconst 1, 1) := by decide +kernel
theorem dL_at_25 : decode cL_at 25 = .ok (.isub, 1) := by decide +kernel
theorem dL_at_26 : decode cL_at 26 = .ok (.imul, 1) := by decide +kernel
theorem dL_at_27 : decode cL_at 27 = .ok (.iconst 2, 1) := by decide +kernel
theorem dL_at_28 : decode cL_at 28 = .ok (.idiv, 1) := by decide +kernel
theorem dL_at_29 : decode cL_at 29 = .ok (.iload_n 2, 1) := by decide +kernel
theorem dL_at_30 : decode cL_at 30 = .ok (.iadd, 1) := by decide +kernel
theorem dL_at_31 : decode cL_at 31 = .ok (.ireturn, 1) := by decide +kernel
theorem dL_cost_0 : decode cL_cost 0 = .ok (.iload_n 1, 1) := by decide +kernel
theorem dL_cost_1 : decode cL_cost 1 = .ok (.iload_n 2, 1) := by decide +kernel
theorem dL_cost_2 : decode cL_cost 2 = .ok (.if_icmp .ne 7, 3) := by decide +kernel
theorem dL_cost_5 : decode cL_cost 5 = .ok (.iconst 0, 1) := by decide +kernel
theorem dL_cost_6 : decode cL_cost 6 = .ok (.goto 10, 3) := by decide +kernel
theorem dL_cost_9 : decode cL_cost 9 = .ok (.aload_n 0, 1) := by decide +kernel
theorem dL_cost_10 : decode cL_cost 10 = .ok (.iload_n 1, 1) := by decide +kernel
theorem dL_cost_11 : decode cL_cost 11 = .ok (.iload_n 2, 1) := by decide +kernel
theorem dL_cost_12 : decode cL_cost 12 = .ok (.invokestatic 10, 3) := by decide +kernel
theorem dL_cost_15 : decode cL_cost 15 = .ok (.iaload, 1) := by decide +kernel
theorem dL_cost_16 : decode cL_cost 16 = .ok (.ireturn, 1) := by decide +kernel
theorem dL_many_0 : decode cL_many 0 = .ok (.iconst 0, 1) := by decide +kernel
theorem dL_many_1 : decode cL_many 1 = .ok (.istore_n 1, 1) := by decide +kernel
theorem dL_many_2 : decode cL_many 2 = .ok (.iconst 0, 1) := by decide +kernel
theorem dL_many_3 : decode cL_many 3 = .ok (.istore_n 2, 1) := by decide +kernel
theorem dL_many_4 : decode cL_many 4 = .ok (.iload_n 2, 1) := by decide +kernel
theorem dL_many_5 : decode cL_many 5 = .ok (.bipush 10, 2) := by decide +kernel
theorem dL_many_7 : decode cL_many 7 = .ok (.if_icmp .ge 17, 3) := by decide +kernel
theorem dL_many_10 : decode cL_many 10 = .ok (.iload_n 1, 1) := by decide +kernel
theorem dL_many_11 : decode cL_many 11 = .ok (.iload_n 0, 1) := by decide +kernel
theorem dL_many_12 : decode cL_many 12 = .ok (.iload_n 2, 1) := by decide +kernel
theorem dL_many_13 : decode cL_many 13 = .ok (.ishr, 1) := by decide +kernel
theorem dL_many_14 : decode cL_many 14 = .ok (.iconst 1, 1) := by decide +kernel
theorem dL_many_15 : decode cL_many 15 = .ok (.iand, 1) := by decide +kernel
theorem dL_many_16 : decode cL_many 16 = .ok (.iadd, 1) := by decide +kernel
theorem dL_many_17 : decode cL_many 17 = .ok (.istore_n 1, 1) := by decide +kernel
theorem dL_many_18 : decode cL_many 18 = .ok (.iinc 2 1, 3) := by decide +kernel
theorem dL_many_21 : decode cL_many 21 = .ok (.goto (-17), 3) := by decide +kernel
theorem dL_many_24 : decode cL_many 24 = .ok (.iload_n 1, 1) := by decide +kernel
theorem dL_many_25 : decode cL_many 25 = .ok (.ireturn, 1) := by decide +kernel
theorem dL_isIn_0 : decode cL_isIn 0 = .ok (.iload_n 0, 1) := by decide +kernel
theorem dL_isIn_1 : decode cL_isIn 1 = .ok (.iload_n 1, 1) := by decide +kernel
theorem dL_isIn_2 : decode cL_isIn 2 = .ok (.ishr, 1) := by decide +kernel
theorem dL_isIn_3 : decode cL_isIn 3 = .ok (.iconst 1, 1) := by decide +kernel
theorem dL_isIn_4 : decode cL_isIn 4 = .ok (.iand, 1) := by decide +kernel
theorem dL_isIn_5 : decode cL_isIn 5 = .ok (.iconst 1, 1) := by decide +kernel
theorem dL_isIn_6 : decode cL_isIn 6 = .ok (.if_icmp .ne 7, 3) := by decide +kernel
theorem dL_isIn_9 : decode cL_isIn 9 = .ok (.iconst 1, 1) := by decide +kernel
theorem dL_isIn_10 : decode cL_isIn 10 = .ok (.goto 4, 3) := by decide +kernel
theorem dL_isIn_13 : decode cL_isIn 13 = .ok (.iconst 0, 1) := by decide +kernel
theorem dL_isIn_14 : decode cL_isIn 14 = .ok (.ireturn, 1) := by decide +kernel
theorem dL_areRoutes_0 : decode cL_areRoutes 0 = .ok (.aload_n 0, 1) := by decide +kernel
theorem dL_areRoutes_1 : decode cL_areRoutes 1 = .ok (.iload_n 2, 1) := by decide +kernel
theorem dL_areRoutes_2 : decode cL_areRoutes 2 = .ok (.iload_n 2, 1) := by decide +kernel
theorem dL_areRoutes_3 : decode cL_areRoutes 3 = .ok (.invokevirtual 16, 3) := by decide +kernel
theorem dL_areRoutes_6 : decode cL_areRoutes 6 = .ok (.ifCond .ne 17, 3) := by decide +kernel
theorem dL_areRoutes_9 : decode cL_areRoutes 9 = .ok (.aload_n 0, 1) := by decide +kernel
theorem dL_areRoutes_10 : decode cL_areRoutes 10 = .ok (.iload_n 2, 1) := by decide +kernel
theorem dL_areRoutes_11 : decode cL_areRoutes 11 = .ok (.iload_n 2, 1) := by decide +kernel
theorem dL_areRoutes_12 : decode cL_areRoutes 12 = .ok (.invokevirtual 21, 3) := by decide +kernel
theorem dL_areRoutes_15 : decode cL_areRoutes 15 = .ok (.iconst (-1), 1) := by decide +kernel
theorem dL_areRoutes_16 : decode cL_areRoutes 16 = .ok (.if_icmp .ne 7, 3) := by decide +kernel
theorem dL_areRoutes_19 : decode cL_areRoutes 19 = .ok (.iconst 1, 1) := by decide +kernel
theorem dL_areRoutes_20 : decode cL_areRoutes 20 = .ok (.goto 4, 3) := by decide +kernel
theorem dL_areRoutes_23 : decode cL_areRoutes 23 = .ok (.iconst 0, 1) := by decide +kernel
theorem dL_areRoutes_24 : decode cL_areRoutes 24 = .ok (.istore_n 3, 1) := by decide +kernel
theorem dL_areRoutes_25 : decode cL_areRoutes 25 = .ok (.iconst 0, 1) := by decide +kernel
theorem dL_areRoutes_26 : decode cL_areRoutes 26 = .ok (.istore 4, 2) := by decide +kernel
theorem dL_areRoutes_28 : decode cL_areRoutes 28 = .ok (.iload 4, 2) := by decide +kernel
theorem dL_areRoutes_30 : decode cL_areRoutes 30 = .ok (.bipush 10, 2) := by decide +kernel
theorem dL_areRoutes_32 : decode cL_areRoutes 32 = .ok (.if_icmp .ge 192, 3) := by decide +kernel
theorem dL_areRoutes_35 : decode cL_areRoutes 35 = .ok (.iload_n 3, 1) := by decide +kernel
theorem dL_areRoutes_36 : decode cL_areRoutes 36 = .ok (.ifCond .eq 188, 3) := by decide +kernel
theorem dL_areRoutes_39 : decode cL_areRoutes 39 = .ok (.aload_n 0, 1) := by decide +kernel
theorem dL_areRoutes_40 : decode cL_areRoutes 40 = .ok (.iload_n 2, 1) := by decide +kernel
theorem dL_areRoutes_41 : decode cL_areRoutes 41 = .ok (.iload 4, 2) := by decide +kernel
theorem dL_areRoutes_43 : decode cL_areRoutes 43 = .ok (.invokevirtual 16, 3) := by decide +kernel
theorem dL_areRoutes_46 : decode cL_areRoutes 46 = .ok (.istore 5, 2) := by decide +kernel
theorem dL_areRoutes_48 : decode cL_areRoutes 48 = .ok (.iconst (-1), 1) := by decide +kernel
theorem dL_areRoutes_49 : decode cL_areRoutes 49 = .ok (.istore 6, 2) := by decide +kernel
theorem dL_areRoutes_51 : decode cL_areRoutes 51 = .ok (.iconst (-1), 1) := by decide +kernel
theorem dL_areRoutes_52 : decode cL_areRoutes 52 = .ok (.istore 7, 2) := by decide +kernel
theorem dL_areRoutes_54 : decode cL_areRoutes 54 = .ok (.bipush 9, 2) := by decide +kernel
theorem dL_areRoutes_56 : decode cL_areRoutes 56 = .ok (.istore 8, 2) := by decide +kernel
theorem dL_areRoutes_58 : decode cL_areRoutes 58 = .ok (.iload 8, 2) := by decide +kernel
theorem dL_areRoutes_60 : decode cL_areRoutes 60 = .ok (.ifCond .lt 106, 3) := by decide +kernel
theorem dL_areRoutes_63 : decode cL_areRoutes 63 = .ok (.aload_n 1, 1) := by decide +kernel
theorem dL_areRoutes_64 : decode cL_areRoutes 64 = .ok (.iload_n 2, 1) := by decide +kernel
theorem dL_areRoutes_65 : decode cL_areRoutes 65 = .ok (.iload 8, 2) := by decide +kernel
theorem dL_areRoutes_67 : decode cL_areRoutes 67 = .ok (.invokestatic 24, 3) := by decide +kernel
theorem dL_areRoutes_70 : decode cL_areRoutes 70 = .ok (.ifCond .le 14, 3) := by decide +kernel
theorem dL_areRoutes_73 : decode cL_areRoutes 73 = .ok (.aload_n 0, 1) := by decide +kernel
theorem dL_areRoutes_74 : decode cL_areRoutes 74 = .ok (.iload 8, 2) := by decide +kernel
theorem dL_areRoutes_76 : decode cL_areRoutes 76 = .ok (.iload 4, 2) := by decide +kernel
theorem dL_areRoutes_78 : decode cL_areRoutes 78 = .ok (.invokevirtual 16, 3) := by decide +kernel
theorem dL_areRoutes_81 : decode cL_areRoutes 81 = .ok (.goto 4, 3) := by decide +kernel
theorem dL_areRoutes_84 : decode cL_areRoutes 84 = .ok (.iconst (-1), 1) := by decide +kernel
theorem dL_areRoutes_85 : decode cL_areRoutes 85 = .ok (.istore 9, 2) := by decide +kernel
theorem dL_areRoutes_87 : decode cL_areRoutes 87 = .ok (.iload 9, 2) := by decide +kernel
theorem dL_areRoutes_89 : decode cL_areRoutes 89 = .ok (.ifCond .ge 7, 3) := by decide +kernel
theorem dL_areRoutes_92 : decode cL_areRoutes 92 = .ok (.iconst (-1), 1) := by decide +kernel
theorem dL_areRoutes_93 : decode cL_areRoutes 93 = .ok (.goto 13, 3) := by decide +kernel
theorem dL_areRoutes_96 : decode cL_areRoutes 96 = .ok (.iload 9, 2) := by decide +kernel
theorem dL_areRoutes_98 : decode cL_areRoutes 98 = .ok (.aload_n 1, 1) := by decide +kernel
theorem dL_areRoutes_99 : decode cL_areRoutes 99 = .ok (.iload_n 2, 1) := by decide +kernel
theorem dL_areRoutes_100 : decode cL_areRoutes 100 = .ok (.iload 8, 2) := by decide +kernel
theorem dL_areRoutes_102 : decode cL_areRoutes 102 = .ok (.invokestatic 24, 3) := by decide +kernel
theorem dL_areRoutes_105 : decode cL_areRoutes 105 = .ok (.iadd, 1) := by decide +kernel
theorem dL_areRoutes_106 : decode cL_areRoutes 106 = .ok (.istore 10, 2) := by decide +kernel
theorem dL_areRoutes_108 : decode cL_areRoutes 108 = .ok (.iload 10, 2) := by decide +kernel
theorem dL_areRoutes_110 : decode cL_areRoutes 110 = .ok (.ifCond .lt 20, 3) := by decide +kernel
theorem dL_areRoutes_113 : decode cL_areRoutes 113 = .ok (.iload 6, 2) := by decide +kernel
theorem dL_areRoutes_115 : decode cL_areRoutes 115 = .ok (.ifCond .lt 10, 3) := by decide +kernel
theorem dL_areRoutes_118 : decode cL_areRoutes 118 = .ok (.iload 10, 2) := by decide +kernel
theorem dL_areRoutes_120 : decode cL_areRoutes 120 = .ok (.iload 6, 2) := by decide +kernel
theorem dL_areRoutes_122 : decode cL_areRoutes 122 = .ok (.if_icmp .gt 8, 3) := by decide +kernel
theorem dL_areRoutes_125 : decode cL_areRoutes 125 = .ok (.iload 8, 2) := by decide +kernel
theorem dL_areRoutes_127 : decode cL_areRoutes 127 = .ok (.goto 5, 3) := by decide +kernel
theorem dL_areRoutes_130 : decode cL_areRoutes 130 = .ok (.iload 7, 2) := by decide +kernel
theorem dL_areRoutes_132 : decode cL_areRoutes 132 = .ok (.istore 7, 2) := by decide +kernel
theorem dL_areRoutes_134 : decode cL_areRoutes 134 = .ok (.iload 10, 2) := by decide +kernel
theorem dL_areRoutes_136 : decode cL_areRoutes 136 = .ok (.ifCond .lt 20, 3) := by decide +kernel
theorem dL_areRoutes_139 : decode cL_areRoutes 139 = .ok (.iload 6, 2) := by decide +kernel
theorem dL_areRoutes_141 : decode cL_areRoutes 141 = .ok (.ifCond .lt 10, 3) := by decide +kernel
theorem dL_areRoutes_144 : decode cL_areRoutes 144 = .ok (.iload 10, 2) := by decide +kernel
theorem dL_areRoutes_146 : decode cL_areRoutes 146 = .ok (.iload 6, 2) := by decide +kernel
theorem dL_areRoutes_148 : decode cL_areRoutes 148 = .ok (.if_icmp .ge 8, 3) := by decide +kernel
theorem dL_areRoutes_151 : decode cL_areRoutes 151 = .ok (.iload 10, 2) := by decide +kernel
theorem dL_areRoutes_153 : decode cL_areRoutes 153 = .ok (.goto 5, 3) := by decide +kernel
theorem dL_areRoutes_156 : decode cL_areRoutes 156 = .ok (.iload 6, 2) := by decide +kernel
theorem dL_areRoutes_158 : decode cL_areRoutes 158 = .ok (.istore 6, 2) := by decide +kernel
theorem dL_areRoutes_160 : decode cL_areRoutes 160 = .ok (.iinc 8 (-1), 3) := by decide +kernel
theorem dL_areRoutes_163 : decode cL_areRoutes 163 = .ok (.goto (-105), 3) := by decide +kernel
theorem dL_areRoutes_166 : decode cL_areRoutes 166 = .ok (.iload 5, 2) := by decide +kernel
theorem dL_areRoutes_168 : decode cL_areRoutes 168 = .ok (.aload_n 0, 1) := by decide +kernel
theorem dL_areRoutes_169 : decode cL_areRoutes 169 = .ok (.iload 4, 2) := by decide +kernel
theorem dL_areRoutes_171 : decode cL_areRoutes 171 = .ok (.iload_n 2, 1) := by decide +kernel
theorem dL_areRoutes_172 : decode cL_areRoutes 172 = .ok (.invokevirtual 16, 3) := by decide +kernel
theorem dL_areRoutes_175 : decode cL_areRoutes 175 = .ok (.if_icmp .ne 41, 3) := by decide +kernel
theorem dL_areRoutes_178 : decode cL_areRoutes 178 = .ok (.iload 4, 2) := by decide +kernel
theorem dL_areRoutes_180 : decode cL_areRoutes 180 = .ok (.iload_n 2, 1) := by decide +kernel
theorem dL_areRoutes_181 : decode cL_areRoutes 181 = .ok (.if_icmp .eq 31, 3) := by decide +kernel
theorem dL_areRoutes_184 : decode cL_areRoutes 184 = .ok (.iload 5, 2) := by decide +kernel
theorem dL_areRoutes_186 : decode cL_areRoutes 186 = .ok (.iload 6, 2) := by decide +kernel
theorem dL_areRoutes_188 : decode cL_areRoutes 188 = .ok (.if_icmp .ne 28, 3) := by decide +kernel
theorem dL_areRoutes_191 : decode cL_areRoutes 191 = .ok (.aload_n 0, 1) := by decide +kernel
theorem dL_areRoutes_192 : decode cL_areRoutes 192 = .ok (.iload_n 2, 1) := by decide +kernel
theorem dL_areRoutes_193 : decode cL_areRoutes 193 = .ok (.iload 4, 2) := by decide +kernel
theorem dL_areRoutes_195 : decode cL_areRoutes 195 = .ok (.invokevirtual 21, 3) := by decide +kernel
theorem dL_areRoutes_198 : decode cL_areRoutes 198 = .ok (.iload 5, 2) := by decide +kernel
theorem dL_areRoutes_200 : decode cL_areRoutes 200 = .ok (.ifCond .ge 7, 3) := by decide +kernel
theorem dL_areRoutes_203 : decode cL_areRoutes 203 = .ok (.iconst (-1), 1) := by decide +kernel
theorem dL_areRoutes_204 : decode cL_areRoutes 204 = .ok (.goto 5, 3) := by decide +kernel
theorem dL_areRoutes_207 : decode cL_areRoutes 207 = .ok (.iload 7, 2) := by decide +kernel
theorem dL_areRoutes_209 : decode cL_areRoutes 209 = .ok (.if_icmp .ne 7, 3) := by decide +kernel
theorem dL_areRoutes_212 : decode cL_areRoutes 212 = .ok (.iconst 1, 1) := by decide +kernel
theorem dL_areRoutes_213 : decode cL_areRoutes 213 = .ok (.goto 4, 3) := by decide +kernel
theorem dL_areRoutes_216 : decode cL_areRoutes 216 = .ok (.iconst 0, 1) := by decide +kernel
theorem dL_areRoutes_217 : decode cL_areRoutes 217 = .ok (.istore_n 3, 1) := by decide +kernel
theorem dL_areRoutes_218 : decode cL_areRoutes 218 = .ok (.iinc 4 1, 3) := by decide +kernel
theorem dL_areRoutes_221 : decode cL_areRoutes 221 = .ok (.goto (-193), 3) := by decide +kernel
theorem dL_areRoutes_224 : decode cL_areRoutes 224 = .ok (.iload_n 3, 1) := by decide +kernel
theorem dL_areRoutes_225 : decode cL_areRoutes 225 = .ok (.ireturn, 1) := by decide +kernel
theorem dL_meets_0 : decode cL_meets 0 = .ok (.iconst (-1), 1) := by decide +kernel
theorem dL_meets_1 : decode cL_meets 1 = .ok (.istore_n 2, 1) := by decide +kernel
theorem dL_meets_2 : decode cL_meets 2 = .ok (.iconst (-1), 1) := by decide +kernel
theorem dL_meets_3 : decode cL_meets 3 = .ok (.istore_n 3, 1) := by decide +kernel
theorem dL_meets_4 : decode cL_meets 4 = .ok (.iconst 0, 1) := by decide +kernel
theorem dL_meets_5 : decode cL_meets 5 = .ok (.istore 4, 2) := by decide +kernel
theorem dL_meets_7 : decode cL_meets 7 = .ok (.iload 4, 2) := by decide +kernel
theorem dL_meets_9 : decode cL_meets 9 = .ok (.bipush 10, 2) := by decide +kernel
theorem dL_meets_11 : decode cL_meets 11 = .ok (.if_icmp .ge 75, 3) := by decide +kernel
theorem dL_meets_14 : decode cL_meets 14 = .ok (.bipush 31, 2) := by decide +kernel
theorem dL_meets_16 : decode cL_meets 16 = .ok (.iload_n 1, 1) := by decide +kernel
theorem dL_meets_17 : decode cL_meets 17 = .ok (.imul, 1) := by decide +kernel
theorem dL_meets_18 : decode cL_meets 18 = .ok (.bipush 17, 2) := by decide +kernel
theorem dL_meets_20 : decode cL_meets 20 = .ok (.iadd, 1) := by decide +kernel
theorem dL_meets_21 : decode cL_meets 21 = .ok (.bipush 53, 2) := by decide +kernel
theorem dL_meets_23 : decode cL_meets 23 = .ok (.iload 4, 2) := by decide +kernel
theorem dL_meets_25 : decode cL_meets 25 = .ok (.imul, 1) := by decide +kernel
theorem dL_meets_26 : decode cL_meets 26 = .ok (.bipush 29, 2) := by decide +kernel
theorem dL_meets_28 : decode cL_meets 28 = .ok (.iadd, 1) := by decide +kernel
theorem dL_meets_29 : decode cL_meets 29 = .ok (.imul, 1) := by decide +kernel
theorem dL_meets_30 : decode cL_meets 30 = .ok (.sipush 997, 3) := by decide +kernel
theorem dL_meets_33 : decode cL_meets 33 = .ok (.irem, 1) := by decide +kernel
theorem dL_meets_34 : decode cL_meets 34 = .ok (.istore 5, 2) := by decide +kernel
theorem dL_meets_36 : decode cL_meets 36 = .ok (.iload_n 0, 1) := by decide +kernel
theorem dL_meets_37 : decode cL_meets 37 = .ok (.iload 4, 2) := by decide +kernel
theorem dL_meets_39 : decode cL_meets 39 = .ok (.invokestatic 28, 3) := by decide +kernel
theorem dL_meets_42 : decode cL_meets 42 = .ok (.ifCond .eq 14, 3) := by decide +kernel
theorem dL_meets_45 : decode cL_meets 45 = .ok (.iload 5, 2) := by decide +kernel
theorem dL_meets_47 : decode cL_meets 47 = .ok (.iload_n 3, 1) := by decide +kernel
theorem dL_meets_48 : decode cL_meets 48 = .ok (.if_icmp .le 8, 3) := by decide +kernel
theorem dL_meets_51 : decode cL_meets 51 = .ok (.iload 4, 2) := by decide +kernel
theorem dL_meets_53 : decode cL_meets 53 = .ok (.goto 4, 3) := by decide +kernel
theorem dL_meets_56 : decode cL_meets 56 = .ok (.iload_n 2, 1) := by decide +kernel
theorem dL_meets_57 : decode cL_meets 57 = .ok (.istore_n 2, 1) := by decide +kernel
theorem dL_meets_58 : decode cL_meets 58 = .ok (.iload_n 0, 1) := by decide +kernel
theorem dL_meets_59 : decode cL_meets 59 = .ok (.iload 4, 2) := by decide +kernel
theorem dL_meets_61 : decode cL_meets 61 = .ok (.invokestatic 28, 3) := by decide +kernel
theorem dL_meets_64 : decode cL_meets 64 = .ok (.ifCond .eq 14, 3) := by decide +kernel
theorem dL_meets_67 : decode cL_meets 67 = .ok (.iload 5, 2) := by decide +kernel
theorem dL_meets_69 : decode cL_meets 69 = .ok (.iload_n 3, 1) := by decide +kernel
theorem dL_meets_70 : decode cL_meets 70 = .ok (.if_icmp .le 8, 3) := by decide +kernel
theorem dL_meets_73 : decode cL_meets 73 = .ok (.iload 5, 2) := by decide +kernel
theorem dL_meets_75 : decode cL_meets 75 = .ok (.goto 4, 3) := by decide +kernel
theorem dL_meets_78 : decode cL_meets 78 = .ok (.iload_n 3, 1) := by decide +kernel
theorem dL_meets_79 : decode cL_meets 79 = .ok (.istore_n 3, 1) := by decide +kernel
theorem dL_meets_80 : decode cL_meets 80 = .ok (.iinc 4 1, 3) := by decide +kernel
theorem dL_meets_83 : decode cL_meets 83 = .ok (.goto (-76), 3) := by decide +kernel
theorem dL_meets_86 : decode cL_meets 86 = .ok (.iload_n 2, 1) := by decide +kernel
theorem dL_meets_87 : decode cL_meets 87 = .ok (.ireturn, 1) := by decide +kernel
theorem dL_below_0 : decode cL_below 0 = .ok (.iload_n 2, 1) := by decide +kernel
theorem dL_below_1 : decode cL_below 1 = .ok (.bipush 10, 2) := by decide +kernel
theorem dL_below_3 : decode cL_below 3 = .ok (.if_icmp .ne 12, 3) := by decide +kernel
theorem dL_below_6 : decode cL_below 6 = .ok (.aload_n 0, 1) := by decide +kernel
theorem dL_below_7 : decode cL_below 7 = .ok (.iload_n 1, 1) := by decide +kernel
theorem dL_below_8 : decode cL_below 8 = .ok (.iload_n 3, 1) := by decide +kernel
theorem dL_below_9 : decode cL_below 9 = .ok (.invokevirtual 32, 3) := by decide +kernel
theorem dL_below_12 : decode cL_below 12 = .ok (.goto 10, 3) := by decide +kernel
theorem dL_below_15 : decode cL_below 15 = .ok (.aload_n 0, 1) := by decide +kernel
theorem dL_below_16 : decode cL_below 16 = .ok (.iload_n 1, 1) := by decide +kernel
theorem dL_below_17 : decode cL_below 17 = .ok (.iload_n 2, 1) := by decide +kernel
theorem dL_below_18 : decode cL_below 18 = .ok (.iload_n 3, 1) := by decide +kernel
theorem dL_below_19 : decode cL_below 19 = .ok (.invokevirtual 35, 3) := by decide +kernel
theorem dL_below_22 : decode cL_below 22 = .ok (.ireturn, 1) := by decide +kernel
theorem dL_leavingIn_0 : decode cL_leavingIn 0 = .ok (.iload_n 1, 1) := by decide +kernel
theorem dL_leavingIn_1 : decode cL_leavingIn 1 = .ok (.bipush 10, 2) := by decide +kernel
theorem dL_leavingIn_3 : decode cL_leavingIn 3 = .ok (.if_icmp .ne 11, 3) := by decide +kernel
theorem dL_leavingIn_6 : decode cL_leavingIn 6 = .ok (.aload_n 0, 1) := by decide +kernel
theorem dL_leavingIn_7 : decode cL_leavingIn 7 = .ok (.iload_n 2, 1) := by decide +kernel
theorem dL_leavingIn_8 : decode cL_leavingIn 8 = .ok (.invokevirtual 39, 3) := by decide +kernel
theorem dL_leavingIn_11 : decode cL_leavingIn 11 = .ok (.goto 4, 3) := by decide +kernel
theorem dL_leavingIn_14 : decode cL_leavingIn 14 = .ok (.iload_n 1, 1) := by decide +kernel
theorem dL_leavingIn_15 : decode cL_leavingIn 15 = .ok (.istore_n 3, 1) := by decide +kernel
theorem dL_leavingIn_16 : decode cL_leavingIn 16 = .ok (.iload_n 1, 1) := by decide +kernel
theorem dL_leavingIn_17 : decode cL_leavingIn 17 = .ok (.bipush 10, 2) := by decide +kernel
theorem dL_leavingIn_19 : decode cL_leavingIn 19 = .ok (.if_icmp .ne 11, 3) := by decide +kernel
theorem dL_leavingIn_22 : decode cL_leavingIn 22 = .ok (.aload_n 0, 1) := by decide +kernel
theorem dL_leavingIn_23 : decode cL_leavingIn 23 = .ok (.iload_n 2, 1) := by decide +kernel
theorem dL_leavingIn_24 : decode cL_leavingIn 24 = .ok (.invokevirtual 43, 3) := by decide +kernel
theorem dL_leavingIn_27 : decode cL_leavingIn 27 = .ok (.goto 9, 3) := by decide +kernel
theorem dL_leavingIn_30 : decode cL_leavingIn 30 = .ok (.aload_n 0, 1) := by decide +kernel
theorem dL_leavingIn_31 : decode cL_leavingIn 31 = .ok (.iload_n 1, 1) := by decide +kernel
theorem dL_leavingIn_32 : decode cL_leavingIn 32 = .ok (.iload_n 2, 1) := by decide +kernel
theorem dL_leavingIn_33 : decode cL_leavingIn 33 = .ok (.invokevirtual 46, 3) := by decide +kernel
theorem dL_leavingIn_36 : decode cL_leavingIn 36 = .ok (.istore 4, 2) := by decide +kernel
theorem dL_leavingIn_38 : decode cL_leavingIn 38 = .ok (.iconst 0, 1) := by decide +kernel
theorem dL_leavingIn_39 : decode cL_leavingIn 39 = .ok (.istore 5, 2) := by decide +kernel
theorem dL_leavingIn_41 : decode cL_leavingIn 41 = .ok (.iconst 0, 1) := by decide +kernel
theorem dL_leavingIn_42 : decode cL_leavingIn 42 = .ok (.istore 6, 2) := by decide +kernel
theorem dL_leavingIn_44 : decode cL_leavingIn 44 = .ok (.iconst 0, 1) := by decide +kernel
theorem dL_leavingIn_45 : decode cL_leavingIn 45 = .ok (.istore 7, 2) := by decide +kernel
theorem dL_leavingIn_47 : decode cL_leavingIn 47 = .ok (.iload 7, 2) := by decide +kernel
theorem dL_leavingIn_49 : decode cL_leavingIn 49 = .ok (.bipush 10, 2) := by decide +kernel
theorem dL_leavingIn_51 : decode cL_leavingIn 51 = .ok (.if_icmp .ge 95, 3) := by decide +kernel
theorem dL_leavingIn_54 : decode cL_leavingIn 54 = .ok (.aload_n 0, 1) := by decide +kernel
theorem dL_leavingIn_55 : decode cL_leavingIn 55 = .ok (.iload 7, 2) := by decide +kernel
theorem dL_leavingIn_57 : decode cL_leavingIn 57 = .ok (.iload_n 1, 1) := by decide +kernel
theorem dL_leavingIn_58 : decode cL_leavingIn 58 = .ok (.iload_n 2, 1) := by decide +kernel
theorem dL_leavingIn_59 : decode cL_leavingIn 59 = .ok (.invokestatic 49, 3) := by decide +kernel
theorem dL_leavingIn_62 : decode cL_leavingIn 62 = .ok (.istore 8, 2) := by decide +kernel
theorem dL_leavingIn_64 : decode cL_leavingIn 64 = .ok (.iload 8, 2) := by decide +kernel
theorem dL_leavingIn_66 : decode cL_leavingIn 66 = .ok (.iload 5, 2) := by decide +kernel
theorem dL_leavingIn_68 : decode cL_leavingIn 68 = .ok (.iand, 1) := by decide +kernel
theorem dL_leavingIn_69 : decode cL_leavingIn 69 = .ok (.ifCond .ne 22, 3) := by decide +kernel
theorem dL_leavingIn_72 : decode cL_leavingIn 72 = .ok (.iload 8, 2) := by decide +kernel
theorem dL_leavingIn_74 : decode cL_leavingIn 74 = .ok (.iload 7, 2) := by decide +kernel
theorem dL_leavingIn_76 : decode cL_leavingIn 76 = .ok (.invokestatic 28, 3) := by decide +kernel
theorem dL_leavingIn_79 : decode cL_leavingIn 79 = .ok (.ifCond .ne 12, 3) := by decide +kernel
theorem dL_leavingIn_82 : decode cL_leavingIn 82 = .ok (.iload_n 3, 1) := by decide +kernel
theorem dL_leavingIn_83 : decode cL_leavingIn 83 = .ok (.ifCond .ge 10, 3) := by decide +kernel
theorem dL_leavingIn_86 : decode cL_leavingIn 86 = .ok (.iload 8, 2) := by decide +kernel
theorem dL_leavingIn_88 : decode cL_leavingIn 88 = .ok (.ifCond .eq 5, 3) := by decide +kernel
theorem dL_leavingIn_91 : decode cL_leavingIn 91 = .ok (.iconst (-1), 1) := by decide +kernel
theorem dL_leavingIn_92 : decode cL_leavingIn 92 = .ok (.ireturn, 1) := by decide +kernel
theorem dL_leavingIn_93 : decode cL_leavingIn 93 = .ok (.iload 5, 2) := by decide +kernel
theorem dL_leavingIn_95 : decode cL_leavingIn 95 = .ok (.iload 8, 2) := by decide +kernel
theorem dL_leavingIn_97 : decode cL_leavingIn 97 = .ok (.ior, 1) := by decide +kernel
theorem dL_leavingIn_98 : decode cL_leavingIn 98 = .ok (.istore 5, 2) := by decide +kernel
theorem dL_leavingIn_100 : decode cL_leavingIn 100 = .ok (.iconst 0, 1) := by decide +kernel
theorem dL_leavingIn_101 : decode cL_leavingIn 101 = .ok (.istore 9, 2) := by decide +kernel
theorem dL_leavingIn_103 : decode cL_leavingIn 103 = .ok (.iload 9, 2) := by decide +kernel
theorem dL_leavingIn_105 : decode cL_leavingIn 105 = .ok (.bipush 10, 2) := by decide +kernel
theorem dL_leavingIn_107 : decode cL_leavingIn 107 = .ok (.if_icmp .ge 33, 3) := by decide +kernel
theorem dL_leavingIn_110 : decode cL_leavingIn 110 = .ok (.iload 8, 2) := by decide +kernel
theorem dL_leavingIn_112 : decode cL_leavingIn 112 = .ok (.iload 9, 2) := by decide +kernel
theorem dL_leavingIn_114 : decode cL_leavingIn 114 = .ok (.invokestatic 28, 3) := by decide +kernel
theorem dL_leavingIn_117 : decode cL_leavingIn 117 = .ok (.ifCond .eq 17, 3) := by decide +kernel
theorem dL_leavingIn_120 : decode cL_leavingIn 120 = .ok (.aload_n 0, 1) := by decide +kernel
theorem dL_leavingIn_121 : decode cL_leavingIn 121 = .ok (.iload 9, 2) := by decide +kernel
theorem dL_leavingIn_123 : decode cL_leavingIn 123 = .ok (.iload_n 3, 1) := by decide +kernel
theorem dL_leavingIn_124 : decode cL_leavingIn 124 = .ok (.invokevirtual 21, 3) := by decide +kernel
theorem dL_leavingIn_127 : decode cL_leavingIn 127 = .ok (.iload 7, 2) := by decide +kernel
theorem dL_leavingIn_129 : decode cL_leavingIn 129 = .ok (.if_icmp .eq 5, 3) := by decide +kernel
theorem dL_leavingIn_132 : decode cL_leavingIn 132 = .ok (.iconst (-1), 1) := by decide +kernel
theorem dL_leavingIn_133 : decode cL_leavingIn 133 = .ok (.ireturn, 1) := by decide +kernel
theorem dL_leavingIn_134 : decode cL_leavingIn 134 = .ok (.iinc 9 1, 3) := by decide +kernel
theorem dL_leavingIn_137 : decode cL_leavingIn 137 = .ok (.goto (-34), 3) := by decide +kernel
theorem dL_leavingIn_140 : decode cL_leavingIn 140 = .ok (.iinc 7 1, 3) := by decide +kernel
theorem dL_leavingIn_143 : decode cL_leavingIn 143 = .ok (.goto (-96), 3) := by decide +kernel
theorem dL_leavingIn_146 : decode cL_leavingIn 146 = .ok (.iconst 0, 1) := by decide +kernel
theorem dL_leavingIn_147 : decode cL_leavingIn 147 = .ok (.istore 7, 2) := by decide +kernel
theorem dL_leavingIn_149 : decode cL_leavingIn 149 = .ok (.iload 7, 2) := by decide +kernel
theorem dL_leavingIn_151 : decode cL_leavingIn 151 = .ok (.bipush 10, 2) := by decide +kernel
theorem dL_leavingIn_153 : decode cL_leavingIn 153 = .ok (.if_icmp .ge 123, 3) := by decide +kernel
theorem dL_leavingIn_156 : decode cL_leavingIn 156 = .ok (.iload_n 3, 1) := by decide +kernel
theorem dL_leavingIn_157 : decode cL_leavingIn 157 = .ok (.ifCond .lt 119, 3) := by decide +kernel
theorem dL_leavingIn_160 : decode cL_leavingIn 160 = .ok (.aload_n 0, 1) := by decide +kernel
theorem dL_leavingIn_161 : decode cL_leavingIn 161 = .ok (.iload 7, 2) := by decide +kernel
theorem dL_leavingIn_163 : decode cL_leavingIn 163 = .ok (.iload_n 1, 1) := by decide +kernel
theorem dL_leavingIn_164 : decode cL_leavingIn 164 = .ok (.iload_n 2, 1) := by decide +kernel
theorem dL_leavingIn_165 : decode cL_leavingIn 165 = .ok (.invokestatic 49, 3) := by decide +kernel
theorem dL_leavingIn_168 : decode cL_leavingIn 168 = .ok (.istore 8, 2) := by decide +kernel
theorem dL_leavingIn_170 : decode cL_leavingIn 170 = .ok (.iload 4, 2) := by decide +kernel
theorem dL_leavingIn_172 : decode cL_leavingIn 172 = .ok (.iload 7, 2) := by decide +kernel
theorem dL_leavingIn_174 : decode cL_leavingIn 174 = .ok (.invokestatic 28, 3) := by decide +kernel
theorem dL_leavingIn_177 : decode cL_leavingIn 177 = .ok (.istore 9, 2) := by decide +kernel
theorem dL_leavingIn_179 : decode cL_leavingIn 179 = .ok (.iload 7, 2) := by decide +kernel
theorem dL_leavingIn_181 : decode cL_leavingIn 181 = .ok (.iload_n 3, 1) := by decide +kernel
theorem dL_leavingIn_182 : decode cL_leavingIn 182 = .ok (.if_icmp .ne 16, 3) := by decide +kernel
theorem dL_leavingIn_185 : decode cL_leavingIn 185 = .ok (.iload 5, 2) := by decide +kernel
theorem dL_leavingIn_187 : decode cL_leavingIn 187 = .ok (.iload 7, 2) := by decide +kernel
theorem dL_leavingIn_189 : decode cL_leavingIn 189 = .ok (.invokestatic 28, 3) := by decide +kernel
theorem dL_leavingIn_192 : decode cL_leavingIn 192 = .ok (.ifCond .eq 48, 3) := by decide +kernel
theorem dL_leavingIn_195 : decode cL_leavingIn 195 = .ok (.goto 43, 3) := by decide +kernel
theorem dL_leavingIn_198 : decode cL_leavingIn 198 = .ok (.iload 9, 2) := by decide +kernel
theorem dL_leavingIn_200 : decode cL_leavingIn 200 = .ok (.ifCond .eq 23, 3) := by decide +kernel
theorem dL_leavingIn_203 : decode cL_leavingIn 203 = .ok (.aload_n 0, 1) := by decide +kernel
theorem dL_leavingIn_204 : decode cL_leavingIn 204 = .ok (.iload 7, 2) := by decide +kernel
theorem dL_leavingIn_206 : decode cL_leavingIn 206 = .ok (.iload_n 3, 1) := by decide +kernel
theorem dL_leavingIn_207 : decode cL_leavingIn 207 = .ok (.invokevirtual 16, 3) := by decide +kernel
theorem dL_leavingIn_210 : decode cL_leavingIn 210 = .ok (.ifCond .lt 13, 3) := by decide +kernel
theorem dL_leavingIn_213 : decode cL_leavingIn 213 = .ok (.iload 5, 2) := by decide +kernel
theorem dL_leavingIn_215 : decode cL_leavingIn 215 = .ok (.iload 7, 2) := by decide +kernel
theorem dL_leavingIn_217 : decode cL_leavingIn 217 = .ok (.invokestatic 28, 3) := by decide +kernel
theorem dL_leavingIn_220 : decode cL_leavingIn 220 = .ok (.ifCond .eq 18, 3) := by decide +kernel
theorem dL_leavingIn_223 : decode cL_leavingIn 223 = .ok (.iload 8, 2) := by decide +kernel
theorem dL_leavingIn_225 : decode cL_leavingIn 225 = .ok (.ifCond .eq 15, 3) := by decide +kernel
theorem dL_leavingIn_228 : decode cL_leavingIn 228 = .ok (.iload 5, 2) := by decide +kernel
theorem dL_leavingIn_230 : decode cL_leavingIn 230 = .ok (.iload 7, 2) := by decide +kernel
theorem dL_leavingIn_232 : decode cL_leavingIn 232 = .ok (.invokestatic 28, 3) := by decide +kernel
theorem dL_leavingIn_235 : decode cL_leavingIn 235 = .ok (.ifCond .ne 5, 3) := by decide +kernel
theorem dL_leavingIn_238 : decode cL_leavingIn 238 = .ok (.iconst (-1), 1) := by decide +kernel
theorem dL_leavingIn_239 : decode cL_leavingIn 239 = .ok (.ireturn, 1) := by decide +kernel
theorem dL_leavingIn_240 : decode cL_leavingIn 240 = .ok (.iload 6, 2) := by decide +kernel
theorem dL_leavingIn_242 : decode cL_leavingIn 242 = .ok (.iload 5, 2) := by decide +kernel
theorem dL_leavingIn_244 : decode cL_leavingIn 244 = .ok (.iload 7, 2) := by decide +kernel
theorem dL_leavingIn_246 : decode cL_leavingIn 246 = .ok (.invokestatic 28, 3) := by decide +kernel
theorem dL_leavingIn_249 : decode cL_leavingIn 249 = .ok (.ifCond .eq 17, 3) := by decide +kernel
theorem dL_leavingIn_252 : decode cL_leavingIn 252 = .ok (.iload 9, 2) := by decide +kernel
theorem dL_leavingIn_254 : decode cL_leavingIn 254 = .ok (.ifCond .ne 12, 3) := by decide +kernel
theorem dL_leavingIn_257 : decode cL_leavingIn 257 = .ok (.iload 8, 2) := by decide +kernel
theorem dL_leavingIn_259 : decode cL_leavingIn 259 = .ok (.ifCond .ne 7, 3) := by decide +kernel
theorem dL_leavingIn_262 : decode cL_leavingIn 262 = .ok (.iconst 1, 1) := by decide +kernel
theorem dL_leavingIn_263 : decode cL_leavingIn 263 = .ok (.goto 4, 3) := by decide +kernel
theorem dL_leavingIn_266 : decode cL_leavingIn 266 = .ok (.iconst 0, 1) := by decide +kernel
theorem dL_leavingIn_267 : decode cL_leavingIn 267 = .ok (.iadd, 1) := by decide +kernel
theorem dL_leavingIn_268 : decode cL_leavingIn 268 = .ok (.istore 6, 2) := by decide +kernel
theorem dL_leavingIn_270 : decode cL_leavingIn 270 = .ok (.iinc 7 1, 3) := by decide +kernel
theorem dL_leavingIn_273 : decode cL_leavingIn 273 = .ok (.goto (-124), 3) := by decide +kernel
theorem dL_leavingIn_276 : decode cL_leavingIn 276 = .ok (.iload 6, 2) := by decide +kernel
theorem dL_leavingIn_278 : decode cL_leavingIn 278 = .ok (.ireturn, 1) := by decide +kernel
theorem dL_areTrees_0 : decode cL_areTrees 0 = .ok (.iconst 0, 1) := by decide +kernel
theorem dL_areTrees_1 : decode cL_areTrees 1 = .ok (.istore_n 1, 1) := by decide +kernel
theorem dL_areTrees_2 : decode cL_areTrees 2 = .ok (.iconst 0, 1) := by decide +kernel
theorem dL_areTrees_3 : decode cL_areTrees 3 = .ok (.istore_n 2, 1) := by decide +kernel
theorem dL_areTrees_4 : decode cL_areTrees 4 = .ok (.iload_n 2, 1) := by decide +kernel
theorem dL_areTrees_5 : decode cL_areTrees 5 = .ok (.bipush 44, 2) := by decide +kernel
theorem dL_areTrees_7 : decode cL_areTrees 7 = .ok (.if_icmp .ge 32, 3) := by decide +kernel
theorem dL_areTrees_10 : decode cL_areTrees 10 = .ok (.aload_n 0, 1) := by decide +kernel
theorem dL_areTrees_11 : decode cL_areTrees 11 = .ok (.iload_n 2, 1) := by decide +kernel
theorem dL_areTrees_12 : decode cL_areTrees 12 = .ok (.bipush 11, 2) := by decide +kernel
theorem dL_areTrees_14 : decode cL_areTrees 14 = .ok (.irem, 1) := by decide +kernel
theorem dL_areTrees_15 : decode cL_areTrees 15 = .ok (.iload_n 2, 1) := by decide +kernel
theorem dL_areTrees_16 : decode cL_areTrees 16 = .ok (.bipush 11, 2) := by decide +kernel
theorem dL_areTrees_18 : decode cL_areTrees 18 = .ok (.idiv, 1) := by decide +kernel
theorem dL_areTrees_19 : decode cL_areTrees 19 = .ok (.invokestatic 53, 3) := by decide +kernel
theorem dL_areTrees_22 : decode cL_areTrees 22 = .ok (.istore_n 3, 1) := by decide +kernel
theorem dL_areTrees_23 : decode cL_areTrees 23 = .ok (.iload_n 3, 1) := by decide +kernel
theorem dL_areTrees_24 : decode cL_areTrees 24 = .ok (.ifCond .ge 5, 3) := by decide +kernel
theorem dL_areTrees_27 : decode cL_areTrees 27 = .ok (.iconst 0, 1) := by decide +kernel
theorem dL_areTrees_28 : decode cL_areTrees 28 = .ok (.ireturn, 1) := by decide +kernel
theorem dL_areTrees_29 : decode cL_areTrees 29 = .ok (.iload_n 1, 1) := by decide +kernel
theorem dL_areTrees_30 : decode cL_areTrees 30 = .ok (.iload_n 3, 1) := by decide +kernel
theorem dL_areTrees_31 : decode cL_areTrees 31 = .ok (.iadd, 1) := by decide +kernel
theorem dL_areTrees_32 : decode cL_areTrees 32 = .ok (.istore_n 1, 1) := by decide +kernel
theorem dL_areTrees_33 : decode cL_areTrees 33 = .ok (.iinc 2 1, 3) := by decide +kernel
theorem dL_areTrees_36 : decode cL_areTrees 36 = .ok (.goto (-32), 3) := by decide +kernel
theorem dL_areTrees_39 : decode cL_areTrees 39 = .ok (.aload_n 0, 1) := by decide +kernel
theorem dL_areTrees_40 : decode cL_areTrees 40 = .ok (.invokevirtual 57, 3) := by decide +kernel
theorem dL_areTrees_43 : decode cL_areTrees 43 = .ok (.iload_n 1, 1) := by decide +kernel
theorem dL_areTrees_44 : decode cL_areTrees 44 = .ok (.if_icmp .ne 7, 3) := by decide +kernel
theorem dL_areTrees_47 : decode cL_areTrees 47 = .ok (.iconst 1, 1) := by decide +kernel
theorem dL_areTrees_48 : decode cL_areTrees 48 = .ok (.goto 4, 3) := by decide +kernel
theorem dL_areTrees_51 : decode cL_areTrees 51 = .ok (.iconst 0, 1) := by decide +kernel
theorem dL_areTrees_52 : decode cL_areTrees 52 = .ok (.ireturn, 1) := by decide +kernel
theorem dL_areMembers_0 : decode cL_areMembers 0 = .ok (.iconst 1, 1) := by decide +kernel
theorem dL_areMembers_1 : decode cL_areMembers 1 = .ok (.istore_n 2, 1) := by decide +kernel
theorem dL_areMembers_2 : decode cL_areMembers 2 = .ok (.iconst 0, 1) := by decide +kernel
theorem dL_areMembers_3 : decode cL_areMembers 3 = .ok (.istore_n 3, 1) := by decide +kernel
theorem dL_areMembers_4 : decode cL_areMembers 4 = .ok (.iload_n 3, 1) := by decide +kernel
theorem dL_areMembers_5 : decode cL_areMembers 5 = .ok (.iconst 4, 1) := by decide +kernel
theorem dL_areMembers_6 : decode cL_areMembers 6 = .ok (.if_icmp .ge 105, 3) := by decide +kernel
theorem dL_areMembers_9 : decode cL_areMembers 9 = .ok (.iload_n 2, 1) := by decide +kernel
theorem dL_areMembers_10 : decode cL_areMembers 10 = .ok (.ifCond .eq 101, 3) := by decide +kernel
theorem dL_areMembers_13 : decode cL_areMembers 13 = .ok (.aload_n 0, 1) := by decide +kernel
theorem dL_areMembers_14 : decode cL_areMembers 14 = .ok (.iload_n 3, 1) := by decide +kernel
theorem dL_areMembers_15 : decode cL_areMembers 15 = .ok (.invokevirtual 43, 3) := by decide +kernel
theorem dL_areMembers_18 : decode cL_areMembers 18 = .ok (.aload_n 1, 1) := by decide +kernel
theorem dL_areMembers_19 : decode cL_areMembers 19 = .ok (.iconst 1, 1) := by decide +kernel
theorem dL_areMembers_20 : decode cL_areMembers 20 = .ok (.iload_n 3, 1) := by decide +kernel
theorem dL_areMembers_21 : decode cL_areMembers 21 = .ok (.iadd, 1) := by decide +kernel
theorem dL_areMembers_22 : decode cL_areMembers 22 = .ok (.iaload, 1) := by decide +kernel
theorem dL_areMembers_23 : decode cL_areMembers 23 = .ok (.if_icmp .ne 22, 3) := by decide +kernel
theorem dL_areMembers_26 : decode cL_areMembers 26 = .ok (.aload_n 0, 1) := by decide +kernel
theorem dL_areMembers_27 : decode cL_areMembers 27 = .ok (.iload_n 3, 1) := by decide +kernel
theorem dL_areMembers_28 : decode cL_areMembers 28 = .ok (.invokevirtual 39, 3) := by decide +kernel
theorem dL_areMembers_31 : decode cL_areMembers 31 = .ok (.aload_n 1, 1) := by decide +kernel
theorem dL_areMembers_32 : decode cL_areMembers 32 = .ok (.iconst 0, 1) := by decide +kernel
theorem dL_areMembers_33 : decode cL_areMembers 33 = .ok (.iaload, 1) := by decide +kernel
theorem dL_areMembers_34 : decode cL_areMembers 34 = .ok (.iload_n 3, 1) := by decide +kernel
theorem dL_areMembers_35 : decode cL_areMembers 35 = .ok (.invokestatic 61, 3) := by decide +kernel
theorem dL_areMembers_38 : decode cL_areMembers 38 = .ok (.if_icmp .ne 7, 3) := by decide +kernel
theorem dL_areMembers_41 : decode cL_areMembers 41 = .ok (.iconst 1, 1) := by decide +kernel
theorem dL_areMembers_42 : decode cL_areMembers 42 = .ok (.goto 4, 3) := by decide +kernel
theorem dL_areMembers_45 : decode cL_areMembers 45 = .ok (.iconst 0, 1) := by decide +kernel
theorem dL_areMembers_46 : decode cL_areMembers 46 = .ok (.istore_n 2, 1) := by decide +kernel
theorem dL_areMembers_47 : decode cL_areMembers 47 = .ok (.iconst 0, 1) := by decide +kernel
theorem dL_areMembers_48 : decode cL_areMembers 48 = .ok (.istore 4, 2) := by decide +kernel
theorem dL_areMembers_50 : decode cL_areMembers 50 = .ok (.iload 4, 2) := by decide +kernel
theorem dL_areMembers_52 : decode cL_areMembers 52 = .ok (.bipush 10, 2) := by decide +kernel
theorem dL_areMembers_54 : decode cL_areMembers 54 = .ok (.if_icmp .ge 51, 3) := by decide +kernel
theorem dL_areMembers_57 : decode cL_areMembers 57 = .ok (.iload_n 2, 1) := by decide +kernel
theorem dL_areMembers_58 : decode cL_areMembers 58 = .ok (.ifCond .eq 47, 3) := by decide +kernel
theorem dL_areMembers_61 : decode cL_areMembers 61 = .ok (.aload_n 0, 1) := by decide +kernel
theorem dL_areMembers_62 : decode cL_areMembers 62 = .ok (.iload 4, 2) := by decide +kernel
theorem dL_areMembers_64 : decode cL_areMembers 64 = .ok (.iload_n 3, 1) := by decide +kernel
theorem dL_areMembers_65 : decode cL_areMembers 65 = .ok (.invokevirtual 46, 3) := by decide +kernel
theorem dL_areMembers_68 : decode cL_areMembers 68 = .ok (.istore 5, 2) := by decide +kernel
theorem dL_areMembers_70 : decode cL_areMembers 70 = .ok (.iload 5, 2) := by decide +kernel
theorem dL_areMembers_72 : decode cL_areMembers 72 = .ok (.aload_n 1, 1) := by decide +kernel
theorem dL_areMembers_73 : decode cL_areMembers 73 = .ok (.iconst 1, 1) := by decide +kernel
theorem dL_areMembers_74 : decode cL_areMembers 74 = .ok (.iload_n 3, 1) := by decide +kernel
theorem dL_areMembers_75 : decode cL_areMembers 75 = .ok (.iadd, 1) := by decide +kernel
theorem dL_areMembers_76 : decode cL_areMembers 76 = .ok (.iaload, 1) := by decide +kernel
theorem dL_areMembers_77 : decode cL_areMembers 77 = .ok (.iconst (-1), 1) := by decide +kernel
theorem dL_areMembers_78 : decode cL_areMembers 78 = .ok (.ixor, 1) := by decide +kernel
theorem dL_areMembers_79 : decode cL_areMembers 79 = .ok (.iand, 1) := by decide +kernel
theorem dL_areMembers_80 : decode cL_areMembers 80 = .ok (.ifCond .ne 17, 3) := by decide +kernel
theorem dL_areMembers_83 : decode cL_areMembers 83 = .ok (.iload 5, 2) := by decide +kernel
theorem dL_areMembers_85 : decode cL_areMembers 85 = .ok (.iload 4, 2) := by decide +kernel
theorem dL_areMembers_87 : decode cL_areMembers 87 = .ok (.invokestatic 28, 3) := by decide +kernel
theorem dL_areMembers_90 : decode cL_areMembers 90 = .ok (.ifCond .ne 7, 3) := by decide +kernel
theorem dL_areMembers_93 : decode cL_areMembers 93 = .ok (.iconst 1, 1) := by decide +kernel
theorem dL_areMembers_94 : decode cL_areMembers 94 = .ok (.goto 4, 3) := by decide +kernel
theorem dL_areMembers_97 : decode cL_areMembers 97 = .ok (.iconst 0, 1) := by decide +kernel
theorem dL_areMembers_98 : decode cL_areMembers 98 = .ok (.istore_n 2, 1) := by decide +kernel
theorem dL_areMembers_99 : decode cL_areMembers 99 = .ok (.iinc 4 1, 3) := by decide +kernel
theorem dL_areMembers_102 : decode cL_areMembers 102 = .ok (.goto (-52), 3) := by decide +kernel
theorem dL_areMembers_105 : decode cL_areMembers 105 = .ok (.iinc 3 1, 3) := by decide +kernel
theorem dL_areMembers_108 : decode cL_areMembers 108 = .ok (.goto (-104), 3) := by decide +kernel
theorem dL_areMembers_111 : decode cL_areMembers 111 = .ok (.iload_n 2, 1) := by decide +kernel
theorem dL_areMembers_112 : decode cL_areMembers 112 = .ok (.ireturn, 1) := by decide +kernel
theorem dL_sends_0 : decode cL_sends 0 = .ok (.aload_n 0, 1) := by decide +kernel
theorem dL_sends_1 : decode cL_sends 1 = .ok (.iload_n 3, 1) := by decide +kernel
theorem dL_sends_2 : decode cL_sends 2 = .ok (.invokevirtual 39, 3) := by decide +kernel
theorem dL_sends_5 : decode cL_sends 5 = .ok (.istore 4, 2) := by decide +kernel
theorem dL_sends_7 : decode cL_sends 7 = .ok (.iload 4, 2) := by decide +kernel
theorem dL_sends_9 : decode cL_sends 9 = .ok (.ifCond .lt 17, 3) := by decide +kernel
theorem dL_sends_12 : decode cL_sends 12 = .ok (.aload_n 0, 1) := by decide +kernel
theorem dL_sends_13 : decode cL_sends 13 = .ok (.iload_n 2, 1) := by decide +kernel
theorem dL_sends_14 : decode cL_sends 14 = .ok (.iload 4, 2) := by decide +kernel
theorem dL_sends_16 : decode cL_sends 16 = .ok (.invokevirtual 16, 3) := by decide +kernel
theorem dL_sends_19 : decode cL_sends 19 = .ok (.ifCond .lt 7, 3) := by decide +kernel
theorem dL_sends_22 : decode cL_sends 22 = .ok (.iconst 1, 1) := by decide +kernel
theorem dL_sends_23 : decode cL_sends 23 = .ok (.goto 4, 3) := by decide +kernel
theorem dL_sends_26 : decode cL_sends 26 = .ok (.iconst 0, 1) := by decide +kernel
theorem dL_sends_27 : decode cL_sends 27 = .ok (.istore 5, 2) := by decide +kernel
theorem dL_sends_29 : decode cL_sends 29 = .ok (.aload_n 0, 1) := by decide +kernel
theorem dL_sends_30 : decode cL_sends 30 = .ok (.iload_n 2, 1) := by decide +kernel
theorem dL_sends_31 : decode cL_sends 31 = .ok (.iload_n 3, 1) := by decide +kernel
theorem dL_sends_32 : decode cL_sends 32 = .ok (.invokevirtual 64, 3) := by decide +kernel
theorem dL_sends_35 : decode cL_sends 35 = .ok (.istore 6, 2) := by decide +kernel
theorem dL_sends_37 : decode cL_sends 37 = .ok (.aload_n 0, 1) := by decide +kernel
theorem dL_sends_38 : decode cL_sends 38 = .ok (.iload_n 2, 1) := by decide +kernel
theorem dL_sends_39 : decode cL_sends 39 = .ok (.iload_n 3, 1) := by decide +kernel
theorem dL_sends_40 : decode cL_sends 40 = .ok (.invokevirtual 46, 3) := by decide +kernel
theorem dL_sends_43 : decode cL_sends 43 = .ok (.istore 7, 2) := by decide +kernel
theorem dL_sends_45 : decode cL_sends 45 = .ok (.aload_n 0, 1) := by decide +kernel
theorem dL_sends_46 : decode cL_sends 46 = .ok (.invokevirtual 67, 3) := by decide +kernel
theorem dL_sends_49 : decode cL_sends 49 = .ok (.istore 8, 2) := by decide +kernel
theorem dL_sends_51 : decode cL_sends 51 = .ok (.aload_n 1, 1) := by decide +kernel
theorem dL_sends_52 : decode cL_sends 52 = .ok (.iconst 1, 1) := by decide +kernel
theorem dL_sends_53 : decode cL_sends 53 = .ok (.iload_n 3, 1) := by decide +kernel
theorem dL_sends_54 : decode cL_sends 54 = .ok (.iadd, 1) := by decide +kernel
theorem dL_sends_55 : decode cL_sends 55 = .ok (.iaload, 1) := by decide +kernel
theorem dL_sends_56 : decode cL_sends 56 = .ok (.iload_n 2, 1) := by decide +kernel
theorem dL_sends_57 : decode cL_sends 57 = .ok (.invokestatic 28, 3) := by decide +kernel
theorem dL_sends_60 : decode cL_sends 60 = .ok (.ifCond .eq 12, 3) := by decide +kernel
theorem dL_sends_63 : decode cL_sends 63 = .ok (.iload 5, 2) := by decide +kernel
theorem dL_sends_65 : decode cL_sends 65 = .ok (.ifCond .eq 7, 3) := by decide +kernel
theorem dL_sends_68 : decode cL_sends 68 = .ok (.iconst 1, 1) := by decide +kernel
theorem dL_sends_69 : decode cL_sends 69 = .ok (.goto 4, 3) := by decide +kernel
theorem dL_sends_72 : decode cL_sends 72 = .ok (.iconst 0, 1) := by decide +kernel
theorem dL_sends_73 : decode cL_sends 73 = .ok (.istore 9, 2) := by decide +kernel
theorem dL_sends_75 : decode cL_sends 75 = .ok (.iconst 0, 1) := by decide +kernel
theorem dL_sends_76 : decode cL_sends 76 = .ok (.istore 10, 2) := by decide +kernel
theorem dL_sends_78 : decode cL_sends 78 = .ok (.iconst 0, 1) := by decide +kernel
theorem dL_sends_79 : decode cL_sends 79 = .ok (.istore 11, 2) := by decide +kernel
theorem dL_sends_81 : decode cL_sends 81 = .ok (.iload 11, 2) := by decide +kernel
theorem dL_sends_83 : decode cL_sends 83 = .ok (.bipush 10, 2) := by decide +kernel
theorem dL_sends_85 : decode cL_sends 85 = .ok (.if_icmp .ge 22, 3) := by decide +kernel
theorem dL_sends_88 : decode cL_sends 88 = .ok (.iload 10, 2) := by decide +kernel
theorem dL_sends_90 : decode cL_sends 90 = .ok (.aload_n 0, 1) := by decide +kernel
theorem dL_sends_91 : decode cL_sends 91 = .ok (.iload 11, 2) := by decide +kernel
theorem dL_sends_93 : decode cL_sends 93 = .ok (.iload_n 2, 1) := by decide +kernel
theorem dL_sends_94 : decode cL_sends 94 = .ok (.iload_n 3, 1) := by decide +kernel
theorem dL_sends_95 : decode cL_sends 95 = .ok (.invokevirtual 35, 3) := by decide +kernel
theorem dL_sends_98 : decode cL_sends 98 = .ok (.ior, 1) := by decide +kernel
theorem dL_sends_99 : decode cL_sends 99 = .ok (.istore 10, 2) := by decide +kernel
theorem dL_sends_101 : decode cL_sends 101 = .ok (.iinc 11 1, 3) := by decide +kernel
theorem dL_sends_104 : decode cL_sends 104 = .ok (.goto (-23), 3) := by decide +kernel
theorem dL_sends_107 : decode cL_sends 107 = .ok (.aload_n 0, 1) := by decide +kernel
theorem dL_sends_108 : decode cL_sends 108 = .ok (.iload_n 2, 1) := by decide +kernel
theorem dL_sends_109 : decode cL_sends 109 = .ok (.iload_n 3, 1) := by decide +kernel
theorem dL_sends_110 : decode cL_sends 110 = .ok (.invokevirtual 70, 3) := by decide +kernel
theorem dL_sends_113 : decode cL_sends 113 = .ok (.istore 11, 2) := by decide +kernel
theorem dL_sends_115 : decode cL_sends 115 = .ok (.iload 11, 2) := by decide +kernel
theorem dL_sends_117 : decode cL_sends 117 = .ok (.aload_n 1, 1) := by decide +kernel
theorem dL_sends_118 : decode cL_sends 118 = .ok (.iconst 5, 1) := by decide +kernel
theorem dL_sends_119 : decode cL_sends 119 = .ok (.iaload, 1) := by decide +kernel
theorem dL_sends_120 : decode cL_sends 120 = .ok (.if_icmp .ne 7, 3) := by decide +kernel
theorem dL_sends_123 : decode cL_sends 123 = .ok (.iconst 1, 1) := by decide +kernel
theorem dL_sends_124 : decode cL_sends 124 = .ok (.goto 4, 3) := by decide +kernel
theorem dL_sends_127 : decode cL_sends 127 = .ok (.iconst 0, 1) := by decide +kernel
theorem dL_sends_128 : decode cL_sends 128 = .ok (.istore 12, 2) := by decide +kernel
theorem dL_sends_130 : decode cL_sends 130 = .ok (.aload_n 1, 1) := by decide +kernel
theorem dL_sends_131 : decode cL_sends 131 = .ok (.iconst 5, 1) := by decide +kernel
theorem dL_sends_132 : decode cL_sends 132 = .ok (.dup2, 1) := by decide +kernel
theorem dL_sends_133 : decode cL_sends 133 = .ok (.iaload, 1) := by decide +kernel
theorem dL_sends_134 : decode cL_sends 134 = .ok (.iconst 1, 1) := by decide +kernel
theorem dL_sends_135 : decode cL_sends 135 = .ok (.iadd, 1) := by decide +kernel
theorem dL_sends_136 : decode cL_sends 136 = .ok (.iastore, 1) := by decide +kernel
theorem dL_sends_137 : decode cL_sends 137 = .ok (.aload_n 0, 1) := by decide +kernel
theorem dL_sends_138 : decode cL_sends 138 = .ok (.invokevirtual 73, 3) := by decide +kernel
theorem dL_sends_141 : decode cL_sends 141 = .ok (.istore 13, 2) := by decide +kernel
theorem dL_sends_143 : decode cL_sends 143 = .ok (.aload_n 0, 1) := by decide +kernel
theorem dL_sends_144 : decode cL_sends 144 = .ok (.invokevirtual 76, 3) := by decide +kernel
theorem dL_sends_147 : decode cL_sends 147 = .ok (.istore 14, 2) := by decide +kernel
theorem dL_sends_149 : decode cL_sends 149 = .ok (.aload_n 0, 1) := by decide +kernel
theorem dL_sends_150 : decode cL_sends 150 = .ok (.iload 11, 2) := by decide +kernel
theorem dL_sends_152 : decode cL_sends 152 = .ok (.invokevirtual 79, 3) := by decide +kernel
theorem dL_sends_155 : decode cL_sends 155 = .ok (.istore 15, 2) := by decide +kernel
theorem dL_sends_157 : decode cL_sends 157 = .ok (.iload 12, 2) := by decide +kernel
theorem dL_sends_159 : decode cL_sends 159 = .ok (.ifCond .eq 45, 3) := by decide +kernel
theorem dL_sends_162 : decode cL_sends 162 = .ok (.iload 14, 2) := by decide +kernel
theorem dL_sends_164 : decode cL_sends 164 = .ok (.iload 13, 2) := by decide +kernel
theorem dL_sends_166 : decode cL_sends 166 = .ok (.if_icmp .lt 38, 3) := by decide +kernel
theorem dL_sends_169 : decode cL_sends 169 = .ok (.aload_n 0, 1) := by decide +kernel
theorem dL_sends_170 : decode cL_sends 170 = .ok (.invokevirtual 73, 3) := by decide +kernel
theorem dL_sends_173 : decode cL_sends 173 = .ok (.ifCond .ne 31, 3) := by decide +kernel
theorem dL_sends_176 : decode cL_sends 176 = .ok (.aload_n 0, 1) := by decide +kernel
theorem dL_sends_177 : decode cL_sends 177 = .ok (.invokevirtual 82, 3) := by decide +kernel
theorem dL_sends_180 : decode cL_sends 180 = .ok (.iconst (-1), 1) := by decide +kernel
theorem dL_sends_181 : decode cL_sends 181 = .ok (.if_icmp .ne 23, 3) := by decide +kernel
theorem dL_sends_184 : decode cL_sends 184 = .ok (.aload_n 0, 1) := by decide +kernel
theorem dL_sends_185 : decode cL_sends 185 = .ok (.invokevirtual 85, 3) := by decide +kernel
theorem dL_sends_188 : decode cL_sends 188 = .ok (.ifCond .ne 16, 3) := by decide +kernel
theorem dL_sends_191 : decode cL_sends 191 = .ok (.aload_n 0, 1) := by decide +kernel
theorem dL_sends_192 : decode cL_sends 192 = .ok (.invokevirtual 67, 3) := by decide +kernel
theorem dL_sends_195 : decode cL_sends 195 = .ok (.iload 8, 2) := by decide +kernel
theorem dL_sends_197 : decode cL_sends 197 = .ok (.if_icmp .ne 7, 3) := by decide +kernel
theorem dL_sends_200 : decode cL_sends 200 = .ok (.iconst 1, 1) := by decide +kernel
theorem dL_sends_201 : decode cL_sends 201 = .ok (.goto 4, 3) := by decide +kernel
theorem dL_sends_204 : decode cL_sends 204 = .ok (.iconst 0, 1) := by decide +kernel
theorem dL_sends_205 : decode cL_sends 205 = .ok (.istore 12, 2) := by decide +kernel
theorem dL_sends_207 : decode cL_sends 207 = .ok (.iload 12, 2) := by decide +kernel
theorem dL_sends_209 : decode cL_sends 209 = .ok (.ifCond .eq 45, 3) := by decide +kernel
theorem dL_sends_212 : decode cL_sends 212 = .ok (.iload 5, 2) := by decide +kernel
theorem dL_sends_214 : decode cL_sends 214 = .ok (.ifCond .eq 13, 3) := by decide +kernel
theorem dL_sends_217 : decode cL_sends 217 = .ok (.iload 15, 2) := by decide +kernel
theorem dL_sends_219 : decode cL_sends 219 = .ok (.iload 6, 2) := by decide +kernel
theorem dL_sends_221 : decode cL_sends 221 = .ok (.if_icmp .ne 33, 3) := by decide +kernel
theorem dL_sends_224 : decode cL_sends 224 = .ok (.goto 26, 3) := by decide +kernel
theorem dL_sends_227 : decode cL_sends 227 = .ok (.iload 15, 2) := by decide +kernel
theorem dL_sends_229 : decode cL_sends 229 = .ok (.iload 6, 2) := by decide +kernel
theorem dL_sends_231 : decode cL_sends 231 = .ok (.iconst (-1), 1) := by decide +kernel
theorem dL_sends_232 : decode cL_sends 232 = .ok (.ixor, 1) := by decide +kernel
theorem dL_sends_233 : decode cL_sends 233 = .ok (.iand, 1) := by decide +kernel
theorem dL_sends_234 : decode cL_sends 234 = .ok (.ifCond .ne 20, 3) := by decide +kernel
theorem dL_sends_237 : decode cL_sends 237 = .ok (.iload 15, 2) := by decide +kernel
theorem dL_sends_239 : decode cL_sends 239 = .ok (.iload 7, 2) := by decide +kernel
theorem dL_sends_241 : decode cL_sends 241 = .ok (.iand, 1) := by decide +kernel
theorem dL_sends_242 : decode cL_sends 242 = .ok (.iload 6, 2) := by decide +kernel
theorem dL_sends_244 : decode cL_sends 244 = .ok (.iload 7, 2) := by decide +kernel
theorem dL_sends_246 : decode cL_sends 246 = .ok (.iand, 1) := by decide +kernel
theorem dL_sends_247 : decode cL_sends 247 = .ok (.if_icmp .ne 7, 3) := by decide +kernel
theorem dL_sends_250 : decode cL_sends 250 = .ok (.iconst 1, 1) := by decide +kernel
theorem dL_sends_251 : decode cL_sends 251 = .ok (.goto 4, 3) := by decide +kernel
theorem dL_sends_254 : decode cL_sends 254 = .ok (.iconst 0, 1) := by decide +kernel
theorem dL_sends_255 : decode cL_sends 255 = .ok (.istore 12, 2) := by decide +kernel
theorem dL_sends_257 : decode cL_sends 257 = .ok (.iload 12, 2) := by decide +kernel
theorem dL_sends_259 : decode cL_sends 259 = .ok (.ifCond .eq 46, 3) := by decide +kernel
theorem dL_sends_262 : decode cL_sends 262 = .ok (.aload_n 0, 1) := by decide +kernel
theorem dL_sends_263 : decode cL_sends 263 = .ok (.iload_n 2, 1) := by decide +kernel
theorem dL_sends_264 : decode cL_sends 264 = .ok (.iload_n 3, 1) := by decide +kernel
theorem dL_sends_265 : decode cL_sends 265 = .ok (.invokevirtual 46, 3) := by decide +kernel
theorem dL_sends_268 : decode cL_sends 268 = .ok (.iload 7, 2) := by decide +kernel
theorem dL_sends_270 : decode cL_sends 270 = .ok (.if_icmp .ne 31, 3) := by decide +kernel
theorem dL_sends_273 : decode cL_sends 273 = .ok (.iload 5, 2) := by decide +kernel
theorem dL_sends_275 : decode cL_sends 275 = .ok (.ifCond .eq 26, 3) := by decide +kernel
theorem dL_sends_278 : decode cL_sends 278 = .ok (.aload_n 0, 1) := by decide +kernel
theorem dL_sends_279 : decode cL_sends 279 = .ok (.iload 11, 2) := by decide +kernel
theorem dL_sends_281 : decode cL_sends 281 = .ok (.invokevirtual 88, 3) := by decide +kernel
theorem dL_sends_284 : decode cL_sends 284 = .ok (.iload 10, 2) := by decide +kernel
theorem dL_sends_286 : decode cL_sends 286 = .ok (.aload_n 1, 1) := by decide +kernel
theorem dL_sends_287 : decode cL_sends 287 = .ok (.iconst 1, 1) := by decide +kernel
theorem dL_sends_288 : decode cL_sends 288 = .ok (.iload_n 3, 1) := by decide +kernel
theorem dL_sends_289 : decode cL_sends 289 = .ok (.iadd, 1) := by decide +kernel
theorem dL_sends_290 : decode cL_sends 290 = .ok (.iaload, 1) := by decide +kernel
theorem dL_sends_291 : decode cL_sends 291 = .ok (.iand, 1) := by decide +kernel
theorem dL_sends_292 : decode cL_sends 292 = .ok (.invokestatic 91, 3) := by decide +kernel
theorem dL_sends_295 : decode cL_sends 295 = .ok (.iload 9, 2) := by decide +kernel
theorem dL_sends_297 : decode cL_sends 297 = .ok (.iadd, 1) := by decide +kernel
theorem dL_sends_298 : decode cL_sends 298 = .ok (.if_icmp .ne 7, 3) := by decide +kernel
theorem dL_sends_301 : decode cL_sends 301 = .ok (.iconst 1, 1) := by decide +kernel
theorem dL_sends_302 : decode cL_sends 302 = .ok (.goto 4, 3) := by decide +kernel
theorem dL_sends_305 : decode cL_sends 305 = .ok (.iconst 0, 1) := by decide +kernel
theorem dL_sends_306 : decode cL_sends 306 = .ok (.ireturn, 1) := by decide +kernel
theorem dL_follows_0 : decode cL_follows 0 = .ok (.iconst 1, 1) := by decide +kernel
theorem dL_follows_1 : decode cL_follows 1 = .ok (.istore_n 2, 1) := by decide +kernel
theorem dL_follows_2 : decode cL_follows 2 = .ok (.iconst 0, 1) := by decide +kernel
theorem dL_follows_3 : decode cL_follows 3 = .ok (.istore_n 3, 1) := by decide +kernel
theorem dL_follows_4 : decode cL_follows 4 = .ok (.iload_n 3, 1) := by decide +kernel
theorem dL_follows_5 : decode cL_follows 5 = .ok (.iload_n 1, 1) := by decide +kernel
theorem dL_follows_6 : decode cL_follows 6 = .ok (.if_icmp .ge 133, 3) := by decide +kernel
theorem dL_follows_9 : decode cL_follows 9 = .ok (.iload_n 2, 1) := by decide +kernel
theorem dL_follows_10 : decode cL_follows 10 = .ok (.ifCond .eq 129, 3) := by decide +kernel
theorem dL_follows_13 : decode cL_follows 13 = .ok (.aload_n 0, 1) := by decide +kernel
theorem dL_follows_14 : decode cL_follows 14 = .ok (.invokevirtual 73, 3) := by decide +kernel
theorem dL_follows_17 : decode cL_follows 17 = .ok (.istore 4, 2) := by decide +kernel
theorem dL_follows_19 : decode cL_follows 19 = .ok (.aload_n 0, 1) := by decide +kernel
theorem dL_follows_20 : decode cL_follows 20 = .ok (.invokevirtual 67, 3) := by decide +kernel
theorem dL_follows_23 : decode cL_follows 23 = .ok (.istore 5, 2) := by decide +kernel
theorem dL_follows_25 : decode cL_follows 25 = .ok (.aload_n 0, 1) := by decide +kernel
theorem dL_follows_26 : decode cL_follows 26 = .ok (.invokevirtual 82, 3) := by decide +kernel
theorem dL_follows_29 : decode cL_follows 29 = .ok (.istore 6, 2) := by decide +kernel
theorem dL_follows_31 : decode cL_follows 31 = .ok (.aload_n 0, 1) := by decide +kernel
theorem dL_follows_32 : decode cL_follows 32 = .ok (.invokevirtual 85, 3) := by decide +kernel
theorem dL_follows_35 : decode cL_follows 35 = .ok (.istore 7, 2) := by decide +kernel
theorem dL_follows_37 : decode cL_follows 37 = .ok (.iload 4, 2) := by decide +kernel
theorem dL_follows_39 : decode cL_follows 39 = .ok (.ifCond .ne 22, 3) := by decide +kernel
theorem dL_follows_42 : decode cL_follows 42 = .ok (.iload 7, 2) := by decide +kernel
theorem dL_follows_44 : decode cL_follows 44 = .ok (.ifCond .ne 13, 3) := by decide +kernel
theorem dL_follows_47 : decode cL_follows 47 = .ok (.iload 6, 2) := by decide +kernel
theorem dL_follows_49 : decode cL_follows 49 = .ok (.iconst (-1), 1) := by decide +kernel
theorem dL_follows_50 : decode cL_follows 50 = .ok (.if_icmp .ne 7, 3) := by decide +kernel
theorem dL_follows_53 : decode cL_follows 53 = .ok (.iconst 1, 1) := by decide +kernel
theorem dL_follows_54 : decode cL_follows 54 = .ok (.goto 78, 3) := by decide +kernel
theorem dL_follows_57 : decode cL_follows 57 = .ok (.iconst 0, 1) := by decide +kernel
theorem dL_follows_58 : decode cL_follows 58 = .ok (.goto 74, 3) := by decide +kernel
theorem dL_follows_61 : decode cL_follows 61 = .ok (.iload 6, 2) := by decide +kernel
theorem dL_follows_63 : decode cL_follows 63 = .ok (.ifCond .lt 68, 3) := by decide +kernel
theorem dL_follows_66 : decode cL_follows 66 = .ok (.iload 6, 2) := by decide +kernel
theorem dL_follows_68 : decode cL_follows 68 = .ok (.bipush 9, 2) := by decide +kernel
theorem dL_follows_70 : decode cL_follows 70 = .ok (.if_icmp .gt 61, 3) := by decide +kernel
theorem dL_follows_73 : decode cL_follows 73 = .ok (.iload 7, 2) := by decide +kernel
theorem dL_follows_75 : decode cL_follows 75 = .ok (.iconst 1, 1) := by decide +kernel
theorem dL_follows_76 : decode cL_follows 76 = .ok (.if_icmp .lt 55, 3) := by decide +kernel
theorem dL_follows_79 : decode cL_follows 79 = .ok (.iload 7, 2) := by decide +kernel
theorem dL_follows_81 : decode cL_follows 81 = .ok (.iconst 4, 1) := by decide +kernel
theorem dL_follows_82 : decode cL_follows 82 = .ok (.if_icmp .gt 49, 3) := by decide +kernel
theorem dL_follows_85 : decode cL_follows 85 = .ok (.iload 7, 2) := by decide +kernel
theorem dL_follows_87 : decode cL_follows 87 = .ok (.iconst 3, 1) := by decide +kernel
theorem dL_follows_88 : decode cL_follows 88 = .ok (.if_icmp .ge 28, 3) := by decide +kernel
theorem dL_follows_91 : decode cL_follows 91 = .ok (.aload_n 0, 1) := by decide +kernel
theorem dL_follows_92 : decode cL_follows 92 = .ok (.invokevirtual 67, 3) := by decide +kernel
theorem dL_follows_95 : decode cL_follows 95 = .ok (.iload 5, 2) := by decide +kernel
theorem dL_follows_97 : decode cL_follows 97 = .ok (.iconst 1, 1) := by decide +kernel
theorem dL_follows_98 : decode cL_follows 98 = .ok (.iadd, 1) := by decide +kernel
theorem dL_follows_99 : decode cL_follows 99 = .ok (.if_icmp .ne 32, 3) := by decide +kernel
theorem dL_follows_102 : decode cL_follows 102 = .ok (.aload_n 0, 1) := by decide +kernel
theorem dL_follows_103 : decode cL_follows 103 = .ok (.invokevirtual 73, 3) := by decide +kernel
theorem dL_follows_106 : decode cL_follows 106 = .ok (.iload 4, 2) := by decide +kernel
theorem dL_follows_108 : decode cL_follows 108 = .ok (.iconst 1, 1) := by decide +kernel
theorem dL_follows_109 : decode cL_follows 109 = .ok (.isub, 1) := by decide +kernel
theorem dL_follows_110 : decode cL_follows 110 = .ok (.if_icmp .ne 21, 3) := by decide +kernel
theorem dL_follows_113 : decode cL_follows 113 = .ok (.goto 14, 3) := by decide +kernel
theorem dL_follows_116 : decode cL_follows 116 = .ok (.aload_n 0, 1) := by decide +kernel
theorem dL_follows_117 : decode cL_follows 117 = .ok (.invokevirtual 73, 3) := by decide +kernel
theorem dL_follows_120 : decode cL_follows 120 = .ok (.iload 4, 2) := by decide +kernel
theorem dL_follows_122 : decode cL_follows 122 = .ok (.iconst 1, 1) := by decide +kernel
theorem dL_follows_123 : decode cL_follows 123 = .ok (.isub, 1) := by decide +kernel
theorem dL_follows_124 : decode cL_follows 124 = .ok (.if_icmp .lt 7, 3) := by decide +kernel
theorem dL_follows_127 : decode cL_follows 127 = .ok (.iconst 1, 1) := by decide +kernel
theorem dL_follows_128 : decode cL_follows 128 = .ok (.goto 4, 3) := by decide +kernel
theorem dL_follows_131 : decode cL_follows 131 = .ok (.iconst 0, 1) := by decide +kernel
theorem dL_follows_132 : decode cL_follows 132 = .ok (.istore_n 2, 1) := by decide +kernel
theorem dL_follows_133 : decode cL_follows 133 = .ok (.iinc 3 1, 3) := by decide +kernel
theorem dL_follows_136 : decode cL_follows 136 = .ok (.goto (-132), 3) := by decide +kernel
theorem dL_follows_139 : decode cL_follows 139 = .ok (.iload_n 2, 1) := by decide +kernel
theorem dL_follows_140 : decode cL_follows 140 = .ok (.ireturn, 1) := by decide +kernel
theorem dL_floods_0 : decode cL_floods 0 = .ok (.iconst 0, 1) := by decide +kernel
theorem dL_floods_1 : decode cL_floods 1 = .ok (.istore 4, 2) := by decide +kernel
theorem dL_floods_3 : decode cL_floods 3 = .ok (.iconst 0, 1) := by decide +kernel
theorem dL_floods_4 : decode cL_floods 4 = .ok (.istore 5, 2) := by decide +kernel
theorem dL_floods_6 : decode cL_floods 6 = .ok (.iconst 0, 1) := by decide +kernel
theorem dL_floods_7 : decode cL_floods 7 = .ok (.istore 6, 2) := by decide +kernel
theorem dL_floods_9 : decode cL_floods 9 = .ok (.iload 6, 2) := by decide +kernel
theorem dL_floods_11 : decode cL_floods 11 = .ok (.bipush 10, 2) := by decide +kernel
theorem dL_floods_13 : decode cL_floods 13 = .ok (.if_icmp .ge 113, 3) := by decide +kernel
theorem dL_floods_16 : decode cL_floods 16 = .ok (.iconst 0, 1) := by decide +kernel
theorem dL_floods_17 : decode cL_floods 17 = .ok (.istore 7, 2) := by decide +kernel
theorem dL_floods_19 : decode cL_floods 19 = .ok (.iconst 0, 1) := by decide +kernel
theorem dL_floods_20 : decode cL_floods 20 = .ok (.istore 8, 2) := by decide +kernel
theorem dL_floods_22 : decode cL_floods 22 = .ok (.iload 8, 2) := by decide +kernel
theorem dL_floods_24 : decode cL_floods 24 = .ok (.bipush 10, 2) := by decide +kernel
theorem dL_floods_26 : decode cL_floods 26 = .ok (.if_icmp .ge 30, 3) := by decide +kernel
theorem dL_floods_29 : decode cL_floods 29 = .ok (.iload 7, 2) := by decide +kernel
theorem dL_floods_31 : decode cL_floods 31 = .ok (.aload_n 1, 1) := by decide +kernel
theorem dL_floods_32 : decode cL_floods 32 = .ok (.iload 6, 2) := by decide +kernel
theorem dL_floods_34 : decode cL_floods 34 = .ok (.iload 8, 2) := by decide +kernel
theorem dL_floods_36 : decode cL_floods 36 = .ok (.invokestatic 24, 3) := by decide +kernel
theorem dL_floods_39 : decode cL_floods 39 = .ok (.ifCond .le 7, 3) := by decide +kernel
theorem dL_floods_42 : decode cL_floods 42 = .ok (.iconst 1, 1) := by decide +kernel
theorem dL_floods_43 : decode cL_floods 43 = .ok (.goto 4, 3) := by decide +kernel
theorem dL_floods_46 : decode cL_floods 46 = .ok (.iconst 0, 1) := by decide +kernel
theorem dL_floods_47 : decode cL_floods 47 = .ok (.iadd, 1) := by decide +kernel
theorem dL_floods_48 : decode cL_floods 48 = .ok (.istore 7, 2) := by decide +kernel
theorem dL_floods_50 : decode cL_floods 50 = .ok (.iinc 8 1, 3) := by decide +kernel
theorem dL_floods_53 : decode cL_floods 53 = .ok (.goto (-31), 3) := by decide +kernel
theorem dL_floods_56 : decode cL_floods 56 = .ok (.aload_n 0, 1) := by decide +kernel
theorem dL_floods_57 : decode cL_floods 57 = .ok (.iload_n 2, 1) := by decide +kernel
theorem dL_floods_58 : decode cL_floods 58 = .ok (.iload 6, 2) := by decide +kernel
theorem dL_floods_60 : decode cL_floods 60 = .ok (.invokevirtual 16, 3) := by decide +kernel
theorem dL_floods_63 : decode cL_floods 63 = .ok (.ifCond .lt 7, 3) := by decide +kernel
theorem dL_floods_66 : decode cL_floods 66 = .ok (.iconst 1, 1) := by decide +kernel
theorem dL_floods_67 : decode cL_floods 67 = .ok (.goto 4, 3) := by decide +kernel
theorem dL_floods_70 : decode cL_floods 70 = .ok (.iconst 0, 1) := by decide +kernel
theorem dL_floods_71 : decode cL_floods 71 = .ok (.istore 8, 2) := by decide +kernel
theorem dL_floods_73 : decode cL_floods 73 = .ok (.iload 4, 2) := by decide +kernel
theorem dL_floods_75 : decode cL_floods 75 = .ok (.iload 8, 2) := by decide +kernel
theorem dL_floods_77 : decode cL_floods 77 = .ok (.ifCond .eq 10, 3) := by decide +kernel
theorem dL_floods_80 : decode cL_floods 80 = .ok (.iconst 1, 1) := by decide +kernel
theorem dL_floods_81 : decode cL_floods 81 = .ok (.iload 6, 2) := by decide +kernel
theorem dL_floods_83 : decode cL_floods 83 = .ok (.ishl, 1) := by decide +kernel
theorem dL_floods_84 : decode cL_floods 84 = .ok (.goto 4, 3) := by decide +kernel
theorem dL_floods_87 : decode cL_floods 87 = .ok (.iconst 0, 1) := by decide +kernel
theorem dL_floods_88 : decode cL_floods 88 = .ok (.ior, 1) := by decide +kernel
theorem dL_floods_89 : decode cL_floods 89 = .ok (.istore 4, 2) := by decide +kernel
theorem dL_floods_91 : decode cL_floods 91 = .ok (.iload 5, 2) := by decide +kernel
theorem dL_floods_93 : decode cL_floods 93 = .ok (.iload 8, 2) := by decide +kernel
theorem dL_floods_95 : decode cL_floods 95 = .ok (.ifCond .ne 7, 3) := by decide +kernel
theorem dL_floods_98 : decode cL_floods 98 = .ok (.iconst 0, 1) := by decide +kernel
theorem dL_floods_99 : decode cL_floods 99 = .ok (.goto 18, 3) := by decide +kernel
theorem dL_floods_102 : decode cL_floods 102 = .ok (.iload 6, 2) := by decide +kernel
theorem dL_floods_104 : decode cL_floods 104 = .ok (.iload_n 2, 1) := by decide +kernel
theorem dL_floods_105 : decode cL_floods 105 = .ok (.if_icmp .ne 8, 3) := by decide +kernel
theorem dL_floods_108 : decode cL_floods 108 = .ok (.iload 7, 2) := by decide +kernel
theorem dL_floods_110 : decode cL_floods 110 = .ok (.goto 7, 3) := by decide +kernel
theorem dL_floods_113 : decode cL_floods 113 = .ok (.iload 7, 2) := by decide +kernel
theorem dL_floods_115 : decode cL_floods 115 = .ok (.iconst 1, 1) := by decide +kernel
theorem dL_floods_116 : decode cL_floods 116 = .ok (.isub, 1) := by decide +kernel
theorem dL_floods_117 : decode cL_floods 117 = .ok (.iadd, 1) := by decide +kernel
theorem dL_floods_118 : decode cL_floods 118 = .ok (.istore 5, 2) := by decide +kernel
theorem dL_floods_120 : decode cL_floods 120 = .ok (.iinc 6 1, 3) := by decide +kernel
theorem dL_floods_123 : decode cL_floods 123 = .ok (.goto (-114), 3) := by decide +kernel
theorem dL_floods_126 : decode cL_floods 126 = .ok (.aload_n 0, 1) := by decide +kernel
theorem dL_floods_127 : decode cL_floods 127 = .ok (.iload_n 2, 1) := by decide +kernel
theorem dL_floods_128 : decode cL_floods 128 = .ok (.iload_n 3, 1) := by decide +kernel
theorem dL_floods_129 : decode cL_floods 129 = .ok (.invokevirtual 64, 3) := by decide +kernel
theorem dL_floods_132 : decode cL_floods 132 = .ok (.iload 4, 2) := by decide +kernel
theorem dL_floods_134 : decode cL_floods 134 = .ok (.aload_n 0, 1) := by decide +kernel
theorem dL_floods_135 : decode cL_floods 135 = .ok (.iload_n 3, 1) := by decide +kernel
theorem dL_floods_136 : decode cL_floods 136 = .ok (.invokevirtual 43, 3) := by decide +kernel
theorem dL_floods_139 : decode cL_floods 139 = .ok (.iand, 1) := by decide +kernel
theorem dL_floods_140 : decode cL_floods 140 = .ok (.if_icmp .ne 17, 3) := by decide +kernel
theorem dL_floods_143 : decode cL_floods 143 = .ok (.aload_n 0, 1) := by decide +kernel
theorem dL_floods_144 : decode cL_floods 144 = .ok (.iload_n 2, 1) := by decide +kernel
theorem dL_floods_145 : decode cL_floods 145 = .ok (.invokevirtual 94, 3) := by decide +kernel
theorem dL_floods_148 : decode cL_floods 148 = .ok (.iload 5, 2) := by decide +kernel
theorem dL_floods_150 : decode cL_floods 150 = .ok (.if_icmp .ne 7, 3) := by decide +kernel
theorem dL_floods_153 : decode cL_floods 153 = .ok (.iconst 1, 1) := by decide +kernel
theorem dL_floods_154 : decode cL_floods 154 = .ok (.goto 4, 3) := by decide +kernel
theorem dL_floods_157 : decode cL_floods 157 = .ok (.iconst 0, 1) := by decide +kernel
theorem dL_floods_158 : decode cL_floods 158 = .ok (.ireturn, 1) := by decide +kernel
theorem dL_passes_0 : decode cL_passes 0 = .ok (.aload_n 0, 1) := by decide +kernel
theorem dL_passes_1 : decode cL_passes 1 = .ok (.invokevirtual 97, 3) := by decide +kernel
theorem dL_passes_4 : decode cL_passes 4 = .ok (.istore_n 2, 1) := by decide +kernel
theorem dL_passes_5 : decode cL_passes 5 = .ok (.aload_n 0, 1) := by decide +kernel
theorem dL_passes_6 : decode cL_passes 6 = .ok (.invokevirtual 57, 3) := by decide +kernel
theorem dL_passes_9 : decode cL_passes 9 = .ok (.istore_n 3, 1) := by decide +kernel
theorem dL_passes_10 : decode cL_passes 10 = .ok (.aload_n 0, 1) := by decide +kernel
theorem dL_passes_11 : decode cL_passes 11 = .ok (.iload_n 1, 1) := by decide +kernel
theorem dL_passes_12 : decode cL_passes 12 = .ok (.invokevirtual 100, 3) := by decide +kernel
theorem dL_passes_15 : decode cL_passes 15 = .ok (.istore 4, 2) := by decide +kernel
theorem dL_passes_17 : decode cL_passes 17 = .ok (.aload_n 0, 1) := by decide +kernel
theorem dL_passes_18 : decode cL_passes 18 = .ok (.invokevirtual 97, 3) := by decide +kernel
theorem dL_passes_21 : decode cL_passes 21 = .ok (.iload_n 2, 1) := by decide +kernel
theorem dL_passes_22 : decode cL_passes 22 = .ok (.iload_n 1, 1) := by decide +kernel
theorem dL_passes_23 : decode cL_passes 23 = .ok (.iadd, 1) := by decide +kernel
theorem dL_passes_24 : decode cL_passes 24 = .ok (.if_icmp .ne 39, 3) := by decide +kernel
theorem dL_passes_27 : decode cL_passes 27 = .ok (.iload_n 1, 1) := by decide +kernel
theorem dL_passes_28 : decode cL_passes 28 = .ok (.iconst 3, 1) := by decide +kernel
theorem dL_passes_29 : decode cL_passes 29 = .ok (.if_icmp .ge 11, 3) := by decide +kernel
theorem dL_passes_32 : decode cL_passes 32 = .ok (.iload 4, 2) := by decide +kernel
theorem dL_passes_34 : decode cL_passes 34 = .ok (.ifCond .lt 29, 3) := by decide +kernel
theorem dL_passes_37 : decode cL_passes 37 = .ok (.goto 9, 3) := by decide +kernel
theorem dL_passes_40 : decode cL_passes 40 = .ok (.iload 4, 2) := by decide +kernel
theorem dL_passes_42 : decode cL_passes 42 = .ok (.iload_n 3, 1) := by decide +kernel
theorem dL_passes_43 : decode cL_passes 43 = .ok (.if_icmp .lt 20, 3) := by decide +kernel
theorem dL_passes_46 : decode cL_passes 46 = .ok (.iload_n 1, 1) := by decide +kernel
theorem dL_passes_47 : decode cL_passes 47 = .ok (.bipush 33, 2) := by decide +kernel
theorem dL_passes_49 : decode cL_passes 49 = .ok (.if_icmp .lt 10, 3) := by decide +kernel
theorem dL_passes_52 : decode cL_passes 52 = .ok (.aload_n 0, 1) := by decide +kernel
theorem dL_passes_53 : decode cL_passes 53 = .ok (.invokevirtual 57, 3) := by decide +kernel
theorem dL_passes_56 : decode cL_passes 56 = .ok (.ifCond .ne 7, 3) := by decide +kernel
theorem dL_passes_59 : decode cL_passes 59 = .ok (.iconst 1, 1) := by decide +kernel
theorem dL_passes_60 : decode cL_passes 60 = .ok (.goto 4, 3) := by decide +kernel
theorem dL_passes_63 : decode cL_passes 63 = .ok (.iconst 0, 1) := by decide +kernel
theorem dL_passes_64 : decode cL_passes 64 = .ok (.ireturn, 1) := by decide +kernel
theorem dL_links_0 : decode cL_links 0 = .ok (.iload_n 2, 1) := by decide +kernel
theorem dL_links_1 : decode cL_links 1 = .ok (.bipush 10, 2) := by decide +kernel
theorem dL_links_3 : decode cL_links 3 = .ok (.irem, 1) := by decide +kernel
theorem dL_links_4 : decode cL_links 4 = .ok (.istore 4, 2) := by decide +kernel
theorem dL_links_6 : decode cL_links 6 = .ok (.iload 4, 2) := by decide +kernel
theorem dL_links_8 : decode cL_links 8 = .ok (.iconst 1, 1) := by decide +kernel
theorem dL_links_9 : decode cL_links 9 = .ok (.iadd, 1) := by decide +kernel
theorem dL_links_10 : decode cL_links 10 = .ok (.iload_n 2, 1) := by decide +kernel
theorem dL_links_11 : decode cL_links 11 = .ok (.bipush 10, 2) := by decide +kernel
theorem dL_links_13 : decode cL_links 13 = .ok (.idiv, 1) := by decide +kernel
theorem dL_links_14 : decode cL_links 14 = .ok (.bipush 9, 2) := by decide +kernel
theorem dL_links_16 : decode cL_links 16 = .ok (.irem, 1) := by decide +kernel
theorem dL_links_17 : decode cL_links 17 = .ok (.iadd, 1) := by decide +kernel
theorem dL_links_18 : decode cL_links 18 = .ok (.bipush 10, 2) := by decide +kernel
theorem dL_links_20 : decode cL_links 20 = .ok (.irem, 1) := by decide +kernel
theorem dL_links_21 : decode cL_links 21 = .ok (.istore 5, 2) := by decide +kernel
theorem dL_links_23 : decode cL_links 23 = .ok (.iload_n 3, 1) := by decide +kernel
theorem dL_links_24 : decode cL_links 24 = .ok (.iconst 4, 1) := by decide +kernel
theorem dL_links_25 : decode cL_links 25 = .ok (.irem, 1) := by decide +kernel
theorem dL_links_26 : decode cL_links 26 = .ok (.ifCond .ne 7, 3) := by decide +kernel
theorem dL_links_29 : decode cL_links 29 = .ok (.iconst 0, 1) := by decide +kernel
theorem dL_links_30 : decode cL_links 30 = .ok (.goto 11, 3) := by decide +kernel
theorem dL_links_33 : decode cL_links 33 = .ok (.iconst 1, 1) := by decide +kernel
theorem dL_links_34 : decode cL_links 34 = .ok (.iload_n 3, 1) := by decide +kernel
theorem dL_links_35 : decode cL_links 35 = .ok (.iconst 4, 1) := by decide +kernel
theorem dL_links_36 : decode cL_links 36 = .ok (.idiv, 1) := by decide +kernel
theorem dL_links_37 : decode cL_links 37 = .ok (.bipush 20, 2) := by decide +kernel
theorem dL_links_39 : decode cL_links 39 = .ok (.irem, 1) := by decide +kernel
theorem dL_links_40 : decode cL_links 40 = .ok (.iadd, 1) := by decide +kernel
theorem dL_links_41 : decode cL_links 41 = .ok (.istore 6, 2) := by decide +kernel
theorem dL_links_43 : decode cL_links 43 = .ok (.aload_n 1, 1) := by decide +kernel
theorem dL_links_44 : decode cL_links 44 = .ok (.iload 4, 2) := by decide +kernel
theorem dL_links_46 : decode cL_links 46 = .ok (.iload 5, 2) := by decide +kernel
theorem dL_links_48 : decode cL_links 48 = .ok (.invokestatic 10, 3) := by decide +kernel
theorem dL_links_51 : decode cL_links 51 = .ok (.iaload, 1) := by decide +kernel
theorem dL_links_52 : decode cL_links 52 = .ok (.istore 7, 2) := by decide +kernel
theorem dL_links_54 : decode cL_links 54 = .ok (.aload_n 0, 1) := by decide +kernel
theorem dL_links_55 : decode cL_links 55 = .ok (.invokevirtual 57, 3) := by decide +kernel
theorem dL_links_58 : decode cL_links 58 = .ok (.istore 8, 2) := by decide +kernel
theorem dL_links_60 : decode cL_links 60 = .ok (.aload_n 1, 1) := by decide +kernel
theorem dL_links_61 : decode cL_links 61 = .ok (.iload 4, 2) := by decide +kernel
theorem dL_links_63 : decode cL_links 63 = .ok (.iload 5, 2) := by decide +kernel
theorem dL_links_65 : decode cL_links 65 = .ok (.invokestatic 10, 3) := by decide +kernel
theorem dL_links_68 : decode cL_links 68 = .ok (.iload 6, 2) := by decide +kernel
theorem dL_links_70 : decode cL_links 70 = .ok (.iastore, 1) := by decide +kernel
theorem dL_links_71 : decode cL_links 71 = .ok (.aload_n 0, 1) := by decide +kernel
theorem dL_links_72 : decode cL_links 72 = .ok (.iload 4, 2) := by decide +kernel
theorem dL_links_74 : decode cL_links 74 = .ok (.iload 5, 2) := by decide +kernel
theorem dL_links_76 : decode cL_links 76 = .ok (.iload 6, 2) := by decide +kernel
theorem dL_links_78 : decode cL_links 78 = .ok (.invokevirtual 103, 3) := by decide +kernel
theorem dL_links_81 : decode cL_links 81 = .ok (.iload 7, 2) := by decide +kernel
theorem dL_links_83 : decode cL_links 83 = .ok (.if_icmp .ne 33, 3) := by decide +kernel
theorem dL_links_86 : decode cL_links 86 = .ok (.iload 6, 2) := by decide +kernel
theorem dL_links_88 : decode cL_links 88 = .ok (.iload 7, 2) := by decide +kernel
theorem dL_links_90 : decode cL_links 90 = .ok (.if_icmp .ne 15, 3) := by decide +kernel
theorem dL_links_93 : decode cL_links 93 = .ok (.aload_n 0, 1) := by decide +kernel
theorem dL_links_94 : decode cL_links 94 = .ok (.invokevirtual 57, 3) := by decide +kernel
theorem dL_links_97 : decode cL_links 97 = .ok (.iload 8, 2) := by decide +kernel
theorem dL_links_99 : decode cL_links 99 = .ok (.if_icmp .ne 17, 3) := by decide +kernel
theorem dL_links_102 : decode cL_links 102 = .ok (.goto 10, 3) := by decide +kernel
theorem dL_links_105 : decode cL_links 105 = .ok (.aload_n 0, 1) := by decide +kernel
theorem dL_links_106 : decode cL_links 106 = .ok (.invokevirtual 57, 3) := by decide +kernel
theorem dL_links_109 : decode cL_links 109 = .ok (.ifCond .ne 7, 3) := by decide +kernel
theorem dL_links_112 : decode cL_links 112 = .ok (.iconst 1, 1) := by decide +kernel
theorem dL_links_113 : decode cL_links 113 = .ok (.goto 4, 3) := by decide +kernel
theorem dL_links_116 : decode cL_links 116 = .ok (.iconst 0, 1) := by decide +kernel
theorem dL_links_117 : decode cL_links 117 = .ok (.ireturn, 1) := by decide +kernel
theorem dL_joins_0 : decode cL_joins 0 = .ok (.aload_n 1, 1) := by decide +kernel
theorem dL_joins_1 : decode cL_joins 1 = .ok (.iconst 1, 1) := by decide +kernel
theorem dL_joins_2 : decode cL_joins 2 = .ok (.iload_n 3, 1) := by decide +kernel
theorem dL_joins_3 : decode cL_joins 3 = .ok (.iadd, 1) := by decide +kernel
theorem dL_joins_4 : decode cL_joins 4 = .ok (.iaload, 1) := by decide +kernel
theorem dL_joins_5 : decode cL_joins 5 = .ok (.iload_n 2, 1) := by decide +kernel
theorem dL_joins_6 : decode cL_joins 6 = .ok (.invokestatic 28, 3) := by decide +kernel
theorem dL_joins_9 : decode cL_joins 9 = .ok (.ifCond .eq 85, 3) := by decide +kernel
theorem dL_joins_12 : decode cL_joins 12 = .ok (.aload_n 1, 1) := by decide +kernel
theorem dL_joins_13 : decode cL_joins 13 = .ok (.iconst 1, 1) := by decide +kernel
theorem dL_joins_14 : decode cL_joins 14 = .ok (.iload_n 3, 1) := by decide +kernel
theorem dL_joins_15 : decode cL_joins 15 = .ok (.iadd, 1) := by decide +kernel
theorem dL_joins_16 : decode cL_joins 16 = .ok (.dup2, 1) := by decide +kernel
theorem dL_joins_17 : decode cL_joins 17 = .ok (.iaload, 1) := by decide +kernel
theorem dL_joins_18 : decode cL_joins 18 = .ok (.iconst 1, 1) := by decide +kernel
theorem dL_joins_19 : decode cL_joins 19 = .ok (.iload_n 2, 1) := by decide +kernel
theorem dL_joins_20 : decode cL_joins 20 = .ok (.ishl, 1) := by decide +kernel
theorem dL_joins_21 : decode cL_joins 21 = .ok (.iconst (-1), 1) := by decide +kernel
theorem dL_joins_22 : decode cL_joins 22 = .ok (.ixor, 1) := by decide +kernel
theorem dL_joins_23 : decode cL_joins 23 = .ok (.iand, 1) := by decide +kernel
theorem dL_joins_24 : decode cL_joins 24 = .ok (.iastore, 1) := by decide +kernel
theorem dL_joins_25 : decode cL_joins 25 = .ok (.aload_n 0, 1) := by decide +kernel
theorem dL_joins_26 : decode cL_joins 26 = .ok (.iload_n 2, 1) := by decide +kernel
theorem dL_joins_27 : decode cL_joins 27 = .ok (.iload_n 3, 1) := by decide +kernel
theorem dL_joins_28 : decode cL_joins 28 = .ok (.invokevirtual 106, 3) := by decide +kernel
theorem dL_joins_31 : decode cL_joins 31 = .ok (.aload_n 1, 1) := by decide +kernel
theorem dL_joins_32 : decode cL_joins 32 = .ok (.iconst 1, 1) := by decide +kernel
theorem dL_joins_33 : decode cL_joins 33 = .ok (.iload_n 3, 1) := by decide +kernel
theorem dL_joins_34 : decode cL_joins 34 = .ok (.iadd, 1) := by decide +kernel
theorem dL_joins_35 : decode cL_joins 35 = .ok (.iaload, 1) := by decide +kernel
theorem dL_joins_36 : decode cL_joins 36 = .ok (.invokestatic 91, 3) := by decide +kernel
theorem dL_joins_39 : decode cL_joins 39 = .ok (.if_icmp .ne 7, 3) := by decide +kernel
theorem dL_joins_42 : decode cL_joins 42 = .ok (.iconst 1, 1) := by decide +kernel
theorem dL_joins_43 : decode cL_joins 43 = .ok (.goto 4, 3) := by decide +kernel
theorem dL_joins_46 : decode cL_joins 46 = .ok (.iconst 0, 1) := by decide +kernel
theorem dL_joins_47 : decode cL_joins 47 = .ok (.istore 4, 2) := by decide +kernel
theorem dL_joins_49 : decode cL_joins 49 = .ok (.iconst 0, 1) := by decide +kernel
theorem dL_joins_50 : decode cL_joins 50 = .ok (.istore 5, 2) := by decide +kernel
theorem dL_joins_52 : decode cL_joins 52 = .ok (.iload 5, 2) := by decide +kernel
theorem dL_joins_54 : decode cL_joins 54 = .ok (.bipush 10, 2) := by decide +kernel
theorem dL_joins_56 : decode cL_joins 56 = .ok (.if_icmp .ge 35, 3) := by decide +kernel
theorem dL_joins_59 : decode cL_joins 59 = .ok (.iload 4, 2) := by decide +kernel
theorem dL_joins_61 : decode cL_joins 61 = .ok (.ifCond .eq 21, 3) := by decide +kernel
theorem dL_joins_64 : decode cL_joins 64 = .ok (.aload_n 0, 1) := by decide +kernel
theorem dL_joins_65 : decode cL_joins 65 = .ok (.iload 5, 2) := by decide +kernel
theorem dL_joins_67 : decode cL_joins 67 = .ok (.iload_n 3, 1) := by decide +kernel
theorem dL_joins_68 : decode cL_joins 68 = .ok (.invokevirtual 46, 3) := by decide +kernel
theorem dL_joins_71 : decode cL_joins 71 = .ok (.iload_n 2, 1) := by decide +kernel
theorem dL_joins_72 : decode cL_joins 72 = .ok (.invokestatic 28, 3) := by decide +kernel
theorem dL_joins_75 : decode cL_joins 75 = .ok (.ifCond .ne 7, 3) := by decide +kernel
theorem dL_joins_78 : decode cL_joins 78 = .ok (.iconst 1, 1) := by decide +kernel
theorem dL_joins_79 : decode cL_joins 79 = .ok (.goto 4, 3) := by decide +kernel
theorem dL_joins_82 : decode cL_joins 82 = .ok (.iconst 0, 1) := by decide +kernel
theorem dL_joins_83 : decode cL_joins 83 = .ok (.istore 4, 2) := by decide +kernel
theorem dL_joins_85 : decode cL_joins 85 = .ok (.iinc 5 1, 3) := by decide +kernel
theorem dL_joins_88 : decode cL_joins 88 = .ok (.goto (-36), 3) := by decide +kernel
theorem dL_joins_91 : decode cL_joins 91 = .ok (.iload 4, 2) := by decide +kernel
theorem dL_joins_93 : decode cL_joins 93 = .ok (.ireturn, 1) := by decide +kernel
theorem dL_joins_94 : decode cL_joins 94 = .ok (.aload_n 1, 1) := by decide +kernel
theorem dL_joins_95 : decode cL_joins 95 = .ok (.iconst 1, 1) := by decide +kernel
theorem dL_joins_96 : decode cL_joins 96 = .ok (.iload_n 3, 1) := by decide +kernel
theorem dL_joins_97 : decode cL_joins 97 = .ok (.iadd, 1) := by decide +kernel
theorem dL_joins_98 : decode cL_joins 98 = .ok (.dup2, 1) := by decide +kernel
theorem dL_joins_99 : decode cL_joins 99 = .ok (.iaload, 1) := by decide +kernel
theorem dL_joins_100 : decode cL_joins 100 = .ok (.iconst 1, 1) := by decide +kernel
theorem dL_joins_101 : decode cL_joins 101 = .ok (.iload_n 2, 1) := by decide +kernel
theorem dL_joins_102 : decode cL_joins 102 = .ok (.ishl, 1) := by decide +kernel
theorem dL_joins_103 : decode cL_joins 103 = .ok (.ior, 1) := by decide +kernel
theorem dL_joins_104 : decode cL_joins 104 = .ok (.iastore, 1) := by decide +kernel
theorem dL_joins_105 : decode cL_joins 105 = .ok (.aload_n 0, 1) := by decide +kernel
theorem dL_joins_106 : decode cL_joins 106 = .ok (.iload_n 2, 1) := by decide +kernel
theorem dL_joins_107 : decode cL_joins 107 = .ok (.iload_n 3, 1) := by decide +kernel
theorem dL_joins_108 : decode cL_joins 108 = .ok (.invokevirtual 109, 3) := by decide +kernel
theorem dL_joins_111 : decode cL_joins 111 = .ok (.aload_n 1, 1) := by decide +kernel
theorem dL_joins_112 : decode cL_joins 112 = .ok (.iconst 1, 1) := by decide +kernel
theorem dL_joins_113 : decode cL_joins 113 = .ok (.iload_n 3, 1) := by decide +kernel
theorem dL_joins_114 : decode cL_joins 114 = .ok (.iadd, 1) := by decide +kernel
theorem dL_joins_115 : decode cL_joins 115 = .ok (.iaload, 1) := by decide +kernel
theorem dL_joins_116 : decode cL_joins 116 = .ok (.invokestatic 91, 3) := by decide +kernel
theorem dL_joins_119 : decode cL_joins 119 = .ok (.if_icmp .ne 7, 3) := by decide +kernel
theorem dL_joins_122 : decode cL_joins 122 = .ok (.iconst 1, 1) := by decide +kernel
theorem dL_joins_123 : decode cL_joins 123 = .ok (.goto 4, 3) := by decide +kernel
theorem dL_joins_126 : decode cL_joins 126 = .ok (.iconst 0, 1) := by decide +kernel
theorem dL_joins_127 : decode cL_joins 127 = .ok (.ireturn, 1) := by decide +kernel
theorem dL_step_0 : decode cL_step 0 = .ok (.iload_n 2, 1) := by decide +kernel
theorem dL_step_1 : decode cL_step 1 = .ok (.bipush 10, 2) := by decide +kernel
theorem dL_step_3 : decode cL_step 3 = .ok (.irem, 1) := by decide +kernel
theorem dL_step_4 : decode cL_step 4 = .ok (.istore 6, 2) := by decide +kernel
theorem dL_step_6 : decode cL_step 6 = .ok (.iload_n 3, 1) := by decide +kernel
theorem dL_step_7 : decode cL_step 7 = .ok (.iconst 2, 1) := by decide +kernel
theorem dL_step_8 : decode cL_step 8 = .ok (.irem, 1) := by decide +kernel
theorem dL_step_9 : decode cL_step 9 = .ok (.ifCond .ne 7, 3) := by decide +kernel
theorem dL_step_12 : decode cL_step 12 = .ok (.iconst 0, 1) := by decide +kernel
theorem dL_step_13 : decode cL_step 13 = .ok (.goto 8, 3) := by decide +kernel
theorem dL_step_16 : decode cL_step 16 = .ok (.iload_n 3, 1) := by decide +kernel
theorem dL_step_17 : decode cL_step 17 = .ok (.iconst 2, 1) := by decide +kernel
theorem dL_step_18 : decode cL_step 18 = .ok (.idiv, 1) := by decide +kernel
theorem dL_step_19 : decode cL_step 19 = .ok (.iconst 4, 1) := by decide +kernel
theorem dL_step_20 : decode cL_step 20 = .ok (.irem, 1) := by decide +kernel
theorem dL_step_21 : decode cL_step 21 = .ok (.istore 7, 2) := by decide +kernel
theorem dL_step_23 : decode cL_step 23 = .ok (.iload_n 1, 1) := by decide +kernel
theorem dL_step_24 : decode cL_step 24 = .ok (.iconst 2, 1) := by decide +kernel
theorem dL_step_25 : decode cL_step 25 = .ok (.if_icmp .ge 12, 3) := by decide +kernel
theorem dL_step_28 : decode cL_step 28 = .ok (.aload_n 0, 1) := by decide +kernel
theorem dL_step_29 : decode cL_step 29 = .ok (.aload 4, 2) := by decide +kernel
theorem dL_step_31 : decode cL_step 31 = .ok (.iload_n 2, 1) := by decide +kernel
theorem dL_step_32 : decode cL_step 32 = .ok (.iload_n 3, 1) := by decide +kernel
theorem dL_step_33 : decode cL_step 33 = .ok (.invokestatic 112, 3) := by decide +kernel
theorem dL_step_36 : decode cL_step 36 = .ok (.ireturn, 1) := by decide +kernel
theorem dL_step_37 : decode cL_step 37 = .ok (.iload_n 1, 1) := by decide +kernel
theorem dL_step_38 : decode cL_step 38 = .ok (.iconst 2, 1) := by decide +kernel
theorem dL_step_39 : decode cL_step 39 = .ok (.if_icmp .ne 88, 3) := by decide +kernel
theorem dL_step_42 : decode cL_step 42 = .ok (.iload_n 3, 1) := by decide +kernel
theorem dL_step_43 : decode cL_step 43 = .ok (.iconst 3, 1) := by decide +kernel
theorem dL_step_44 : decode cL_step 44 = .ok (.irem, 1) := by decide +kernel
theorem dL_step_45 : decode cL_step 45 = .ok (.ifCond .le 7, 3) := by decide +kernel
theorem dL_step_48 : decode cL_step 48 = .ok (.iconst 1, 1) := by decide +kernel
theorem dL_step_49 : decode cL_step 49 = .ok (.goto 4, 3) := by decide +kernel
theorem dL_step_52 : decode cL_step 52 = .ok (.iconst 0, 1) := by decide +kernel
theorem dL_step_53 : decode cL_step 53 = .ok (.istore 8, 2) := by decide +kernel
theorem dL_step_55 : decode cL_step 55 = .ok (.aload 5, 2) := by decide +kernel
theorem dL_step_57 : decode cL_step 57 = .ok (.iconst 0, 1) := by decide +kernel
theorem dL_step_58 : decode cL_step 58 = .ok (.iaload, 1) := by decide +kernel
theorem dL_step_59 : decode cL_step 59 = .ok (.iload 6, 2) := by decide +kernel
theorem dL_step_61 : decode cL_step 61 = .ok (.invokestatic 28, 3) := by decide +kernel
theorem dL_step_64 : decode cL_step 64 = .ok (.istore 9, 2) := by decide +kernel
theorem dL_step_66 : decode cL_step 66 = .ok (.aload 5, 2) := by decide +kernel
theorem dL_step_68 : decode cL_step 68 = .ok (.iconst 0, 1) := by decide +kernel
theorem dL_step_69 : decode cL_step 69 = .ok (.iload 8, 2) := by decide +kernel
theorem dL_step_71 : decode cL_step 71 = .ok (.ifCond .eq 15, 3) := by decide +kernel
theorem dL_step_74 : decode cL_step 74 = .ok (.aload 5, 2) := by decide +kernel
theorem dL_step_76 : decode cL_step 76 = .ok (.iconst 0, 1) := by decide +kernel
theorem dL_step_77 : decode cL_step 77 = .ok (.iaload, 1) := by decide +kernel
theorem dL_step_78 : decode cL_step 78 = .ok (.iconst 1, 1) := by decide +kernel
theorem dL_step_79 : decode cL_step 79 = .ok (.iload 6, 2) := by decide +kernel
theorem dL_step_81 : decode cL_step 81 = .ok (.ishl, 1) := by decide +kernel
theorem dL_step_82 : decode cL_step 82 = .ok (.ior, 1) := by decide +kernel
theorem dL_step_83 : decode cL_step 83 = .ok (.goto 14, 3) := by decide +kernel
theorem dL_step_86 : decode cL_step 86 = .ok (.aload 5, 2) := by decide +kernel
theorem dL_step_88 : decode cL_step 88 = .ok (.iconst 0, 1) := by decide +kernel
theorem dL_step_89 : decode cL_step 89 = .ok (.iaload, 1) := by decide +kernel
theorem dL_step_90 : decode cL_step 90 = .ok (.iconst 1, 1) := by decide +kernel
theorem dL_step_91 : decode cL_step 91 = .ok (.iload 6, 2) := by decide +kernel
theorem dL_step_93 : decode cL_step 93 = .ok (.ishl, 1) := by decide +kernel
theorem dL_step_94 : decode cL_step 94 = .ok (.iconst (-1), 1) := by decide +kernel
theorem dL_step_95 : decode cL_step 95 = .ok (.ixor, 1) := by decide +kernel
theorem dL_step_96 : decode cL_step 96 = .ok (.iand, 1) := by decide +kernel
theorem dL_step_97 : decode cL_step 97 = .ok (.iastore, 1) := by decide +kernel
theorem dL_step_98 : decode cL_step 98 = .ok (.aload_n 0, 1) := by decide +kernel
theorem dL_step_99 : decode cL_step 99 = .ok (.iload 6, 2) := by decide +kernel
theorem dL_step_101 : decode cL_step 101 = .ok (.iload 8, 2) := by decide +kernel
theorem dL_step_103 : decode cL_step 103 = .ok (.invokevirtual 116, 3) := by decide +kernel
theorem dL_step_106 : decode cL_step 106 = .ok (.iload 8, 2) := by decide +kernel
theorem dL_step_108 : decode cL_step 108 = .ok (.iload 9, 2) := by decide +kernel
theorem dL_step_110 : decode cL_step 110 = .ok (.if_icmp .eq 7, 3) := by decide +kernel
theorem dL_step_113 : decode cL_step 113 = .ok (.iconst 1, 1) := by decide +kernel
theorem dL_step_114 : decode cL_step 114 = .ok (.goto 4, 3) := by decide +kernel
theorem dL_step_117 : decode cL_step 117 = .ok (.iconst 0, 1) := by decide +kernel
theorem dL_step_118 : decode cL_step 118 = .ok (.if_icmp .ne 7, 3) := by decide +kernel
theorem dL_step_121 : decode cL_step 121 = .ok (.iconst 1, 1) := by decide +kernel
theorem dL_step_122 : decode cL_step 122 = .ok (.goto 4, 3) := by decide +kernel
theorem dL_step_125 : decode cL_step 125 = .ok (.iconst 0, 1) := by decide +kernel
theorem dL_step_126 : decode cL_step 126 = .ok (.ireturn, 1) := by decide +kernel
theorem dL_step_127 : decode cL_step 127 = .ok (.iload_n 1, 1) := by decide +kernel
theorem dL_step_128 : decode cL_step 128 = .ok (.bipush 6, 2) := by decide +kernel
theorem dL_step_130 : decode cL_step 130 = .ok (.if_icmp .ge 14, 3) := by decide +kernel
theorem dL_step_133 : decode cL_step 133 = .ok (.aload_n 0, 1) := by decide +kernel
theorem dL_step_134 : decode cL_step 134 = .ok (.aload 5, 2) := by decide +kernel
theorem dL_step_136 : decode cL_step 136 = .ok (.iload 6, 2) := by decide +kernel
theorem dL_step_138 : decode cL_step 138 = .ok (.iload 7, 2) := by decide +kernel
theorem dL_step_140 : decode cL_step 140 = .ok (.invokestatic 120, 3) := by decide +kernel
theorem dL_step_143 : decode cL_step 143 = .ok (.ireturn, 1) := by decide +kernel
theorem dL_step_144 : decode cL_step 144 = .ok (.iload_n 1, 1) := by decide +kernel
theorem dL_step_145 : decode cL_step 145 = .ok (.bipush 6, 2) := by decide +kernel
theorem dL_step_147 : decode cL_step 147 = .ok (.if_icmp .ne 30, 3) := by decide +kernel
theorem dL_step_150 : decode cL_step 150 = .ok (.aload_n 0, 1) := by decide +kernel
theorem dL_step_151 : decode cL_step 151 = .ok (.iload_n 3, 1) := by decide +kernel
theorem dL_step_152 : decode cL_step 152 = .ok (.iconst 3, 1) := by decide +kernel
theorem dL_step_153 : decode cL_step 153 = .ok (.irem, 1) := by decide +kernel
theorem dL_step_154 : decode cL_step 154 = .ok (.ifCond .ne 13, 3) := by decide +kernel
theorem dL_step_157 : decode cL_step 157 = .ok (.bipush 33, 2) := by decide +kernel
theorem dL_step_159 : decode cL_step 159 = .ok (.iload_n 2, 1) := by decide +kernel
theorem dL_step_160 : decode cL_step 160 = .ok (.bipush 50, 2) := by decide +kernel
theorem dL_step_162 : decode cL_step 162 = .ok (.irem, 1) := by decide +kernel
theorem dL_step_163 : decode cL_step 163 = .ok (.iadd, 1) := by decide +kernel
theorem dL_step_164 : decode cL_step 164 = .ok (.goto 9, 3) := by decide +kernel
theorem dL_step_167 : decode cL_step 167 = .ok (.iconst 1, 1) := by decide +kernel
theorem dL_step_168 : decode cL_step 168 = .ok (.iload_n 2, 1) := by decide +kernel
theorem dL_step_169 : decode cL_step 169 = .ok (.bipush 9, 2) := by decide +kernel
theorem dL_step_171 : decode cL_step 171 = .ok (.irem, 1) := by decide +kernel
theorem dL_step_172 : decode cL_step 172 = .ok (.iadd, 1) := by decide +kernel
theorem dL_step_173 : decode cL_step 173 = .ok (.invokestatic 123, 3) := by decide +kernel
theorem dL_step_176 : decode cL_step 176 = .ok (.ireturn, 1) := by decide +kernel
theorem dL_step_177 : decode cL_step 177 = .ok (.iload_n 1, 1) := by decide +kernel
theorem dL_step_178 : decode cL_step 178 = .ok (.bipush 7, 2) := by decide +kernel
theorem dL_step_180 : decode cL_step 180 = .ok (.if_icmp .ne 22, 3) := by decide +kernel
theorem dL_step_183 : decode cL_step 183 = .ok (.aload_n 0, 1) := by decide +kernel
theorem dL_step_184 : decode cL_step 184 = .ok (.iconst 1, 1) := by decide +kernel
theorem dL_step_185 : decode cL_step 185 = .ok (.iload_n 3, 1) := by decide +kernel
theorem dL_step_186 : decode cL_step 186 = .ok (.iconst 4, 1) := by decide +kernel
theorem dL_step_187 : decode cL_step 187 = .ok (.irem, 1) := by decide +kernel
theorem dL_step_188 : decode cL_step 188 = .ok (.iadd, 1) := by decide +kernel
theorem dL_step_189 : decode cL_step 189 = .ok (.invokevirtual 127, 3) := by decide +kernel
theorem dL_step_192 : decode cL_step 192 = .ok (.iconst 1, 1) := by decide +kernel
theorem dL_step_193 : decode cL_step 193 = .ok (.if_icmp .lt 7, 3) := by decide +kernel
theorem dL_step_196 : decode cL_step 196 = .ok (.iconst 1, 1) := by decide +kernel
theorem dL_step_197 : decode cL_step 197 = .ok (.goto 4, 3) := by decide +kernel
theorem dL_step_200 : decode cL_step 200 = .ok (.iconst 0, 1) := by decide +kernel
theorem dL_step_201 : decode cL_step 201 = .ok (.ireturn, 1) := by decide +kernel
theorem dL_step_202 : decode cL_step 202 = .ok (.iload_n 1, 1) := by decide +kernel
theorem dL_step_203 : decode cL_step 203 = .ok (.bipush 10, 2) := by decide +kernel
theorem dL_step_205 : decode cL_step 205 = .ok (.if_icmp .ge 43, 3) := by decide +kernel
theorem dL_step_208 : decode cL_step 208 = .ok (.aload_n 0, 1) := by decide +kernel
theorem dL_step_209 : decode cL_step 209 = .ok (.invokevirtual 73, 3) := by decide +kernel
theorem dL_step_212 : decode cL_step 212 = .ok (.ifCond .gt 30, 3) := by decide +kernel
theorem dL_step_215 : decode cL_step 215 = .ok (.aload 5, 2) := by decide +kernel
theorem dL_step_217 : decode cL_step 217 = .ok (.iconst 5, 1) := by decide +kernel
theorem dL_step_218 : decode cL_step 218 = .ok (.iaload, 1) := by decide +kernel
theorem dL_step_219 : decode cL_step 219 = .ok (.sipush 200, 3) := by decide +kernel
theorem dL_step_222 : decode cL_step 222 = .ok (.if_icmp .eq 20, 3) := by decide +kernel
theorem dL_step_225 : decode cL_step 225 = .ok (.aload_n 0, 1) := by decide +kernel
theorem dL_step_226 : decode cL_step 226 = .ok (.aload 5, 2) := by decide +kernel
theorem dL_step_228 : decode cL_step 228 = .ok (.iload_n 2, 1) := by decide +kernel
theorem dL_step_229 : decode cL_step 229 = .ok (.bipush 10, 2) := by decide +kernel
theorem dL_step_231 : decode cL_step 231 = .ok (.idiv, 1) := by decide +kernel
theorem dL_step_232 : decode cL_step 232 = .ok (.iconst 3, 1) := by decide +kernel
theorem dL_step_233 : decode cL_step 233 = .ok (.irem, 1) := by decide +kernel
theorem dL_step_234 : decode cL_step 234 = .ok (.iload 7, 2) := by decide +kernel
theorem dL_step_236 : decode cL_step 236 = .ok (.invokestatic 130, 3) := by decide +kernel
theorem dL_step_239 : decode cL_step 239 = .ok (.ifCond .eq 7, 3) := by decide +kernel
theorem dL_step_242 : decode cL_step 242 = .ok (.iconst 1, 1) := by decide +kernel
theorem dL_step_243 : decode cL_step 243 = .ok (.goto 4, 3) := by decide +kernel
theorem dL_step_246 : decode cL_step 246 = .ok (.iconst 0, 1) := by decide +kernel
theorem dL_step_247 : decode cL_step 247 = .ok (.ireturn, 1) := by decide +kernel
theorem dL_step_248 : decode cL_step 248 = .ok (.iload_n 1, 1) := by decide +kernel
theorem dL_step_249 : decode cL_step 249 = .ok (.bipush 10, 2) := by decide +kernel
theorem dL_step_251 : decode cL_step 251 = .ok (.if_icmp .ne 46, 3) := by decide +kernel
theorem dL_step_254 : decode cL_step 254 = .ok (.aload 5, 2) := by decide +kernel
theorem dL_step_256 : decode cL_step 256 = .ok (.iconst 5, 1) := by decide +kernel
theorem dL_step_257 : decode cL_step 257 = .ok (.iaload, 1) := by decide +kernel
theorem dL_step_258 : decode cL_step 258 = .ok (.sipush 200, 3) := by decide +kernel
theorem dL_step_261 : decode cL_step 261 = .ok (.if_icmp .ge 36, 3) := by decide +kernel
theorem dL_step_264 : decode cL_step 264 = .ok (.aload_n 0, 1) := by decide +kernel
theorem dL_step_265 : decode cL_step 265 = .ok (.iload 6, 2) := by decide +kernel
theorem dL_step_267 : decode cL_step 267 = .ok (.iload 7, 2) := by decide +kernel
theorem dL_step_269 : decode cL_step 269 = .ok (.invokevirtual 70, 3) := by decide +kernel
theorem dL_step_272 : decode cL_step 272 = .ok (.aload 5, 2) := by decide +kernel
theorem dL_step_274 : decode cL_step 274 = .ok (.iconst 5, 1) := by decide +kernel
theorem dL_step_275 : decode cL_step 275 = .ok (.iaload, 1) := by decide +kernel
theorem dL_step_276 : decode cL_step 276 = .ok (.if_icmp .ne 7, 3) := by decide +kernel
theorem dL_step_279 : decode cL_step 279 = .ok (.iconst 1, 1) := by decide +kernel
theorem dL_step_280 : decode cL_step 280 = .ok (.goto 4, 3) := by decide +kernel
theorem dL_step_283 : decode cL_step 283 = .ok (.iconst 0, 1) := by decide +kernel
theorem dL_step_284 : decode cL_step 284 = .ok (.istore 8, 2) := by decide +kernel
theorem dL_step_286 : decode cL_step 286 = .ok (.aload 5, 2) := by decide +kernel
theorem dL_step_288 : decode cL_step 288 = .ok (.iconst 5, 1) := by decide +kernel
theorem dL_step_289 : decode cL_step 289 = .ok (.dup2, 1) := by decide +kernel
theorem dL_step_290 : decode cL_step 290 = .ok (.iaload, 1) := by decide +kernel
theorem dL_step_291 : decode cL_step 291 = .ok (.iconst 1, 1) := by decide +kernel
theorem dL_step_292 : decode cL_step 292 = .ok (.iadd, 1) := by decide +kernel
theorem dL_step_293 : decode cL_step 293 = .ok (.iastore, 1) := by decide +kernel
theorem dL_step_294 : decode cL_step 294 = .ok (.iload 8, 2) := by decide +kernel
theorem dL_step_296 : decode cL_step 296 = .ok (.ireturn, 1) := by decide +kernel
theorem dL_step_297 : decode cL_step 297 = .ok (.iload_n 1, 1) := by decide +kernel
theorem dL_step_298 : decode cL_step 298 = .ok (.bipush 11, 2) := by decide +kernel
theorem dL_step_300 : decode cL_step 300 = .ok (.if_icmp .ne 16, 3) := by decide +kernel
theorem dL_step_303 : decode cL_step 303 = .ok (.aload_n 0, 1) := by decide +kernel
theorem dL_step_304 : decode cL_step 304 = .ok (.iconst 1, 1) := by decide +kernel
theorem dL_step_305 : decode cL_step 305 = .ok (.iload_n 3, 1) := by decide +kernel
theorem dL_step_306 : decode cL_step 306 = .ok (.bipush 7, 2) := by decide +kernel
theorem dL_step_308 : decode cL_step 308 = .ok (.irem, 1) := by decide +kernel
theorem dL_step_309 : decode cL_step 309 = .ok (.iadd, 1) := by decide +kernel
theorem dL_step_310 : decode cL_step 310 = .ok (.invokestatic 133, 3) := by decide +kernel
theorem dL_step_313 : decode cL_step 313 = .ok (.goto 22, 3) := by decide +kernel
theorem dL_step_316 : decode cL_step 316 = .ok (.aload_n 0, 1) := by decide +kernel
