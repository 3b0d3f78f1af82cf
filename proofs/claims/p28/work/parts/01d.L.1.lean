theorem dL_step_317 : decode cL_step 317 = .ok (.invokevirtual 76, 3) := by decide +kernel
theorem dL_step_320 : decode cL_step 320 = .ok (.ifCond .lt 14, 3) := by decide +kernel
theorem dL_step_323 : decode cL_step 323 = .ok (.aload_n 0, 1) := by decide +kernel
theorem dL_step_324 : decode cL_step 324 = .ok (.invokevirtual 73, 3) := by decide +kernel
theorem dL_step_327 : decode cL_step 327 = .ok (.ifCond .ne 7, 3) := by decide +kernel
theorem dL_step_330 : decode cL_step 330 = .ok (.iconst 1, 1) := by decide +kernel
theorem dL_step_331 : decode cL_step 331 = .ok (.goto 4, 3) := by decide +kernel
theorem dL_step_334 : decode cL_step 334 = .ok (.iconst 0, 1) := by decide +kernel
theorem dL_step_335 : decode cL_step 335 = .ok (.ireturn, 1) := by decide +kernel
theorem dL_network_0 : decode cL_network 0 = .ok (.new 17, 3) := by decide +kernel
theorem dL_network_3 : decode cL_network 3 = .ok (.dup, 1) := by decide +kernel
theorem dL_network_4 : decode cL_network 4 = .ok (.invokespecial 136, 3) := by decide +kernel
theorem dL_network_7 : decode cL_network 7 = .ok (.astore_n 2, 1) := by decide +kernel
theorem dL_network_8 : decode cL_network 8 = .ok (.bipush 45, 2) := by decide +kernel
theorem dL_network_10 : decode cL_network 10 = .ok (.newarray .int, 2) := by decide +kernel
theorem dL_network_12 : decode cL_network 12 = .ok (.astore_n 3, 1) := by decide +kernel
theorem dL_network_13 : decode cL_network 13 = .ok (.bipush 6, 2) := by decide +kernel
theorem dL_network_15 : decode cL_network 15 = .ok (.newarray .int, 2) := by decide +kernel
theorem dL_network_17 : decode cL_network 17 = .ok (.astore 4, 2) := by decide +kernel
theorem dL_network_19 : decode cL_network 19 = .ok (.iconst 0, 1) := by decide +kernel
theorem dL_network_20 : decode cL_network 20 = .ok (.istore 5, 2) := by decide +kernel
theorem dL_network_22 : decode cL_network 22 = .ok (.iload 5, 2) := by decide +kernel
theorem dL_network_24 : decode cL_network 24 = .ok (.bipush 56, 2) := by decide +kernel
theorem dL_network_26 : decode cL_network 26 = .ok (.if_icmp .ge 179, 3) := by decide +kernel
theorem dL_network_29 : decode cL_network 29 = .ok (.aload_n 0, 1) := by decide +kernel
theorem dL_network_30 : decode cL_network 30 = .ok (.iload_n 1, 1) := by decide +kernel
theorem dL_network_31 : decode cL_network 31 = .ok (.iconst 3, 1) := by decide +kernel
theorem dL_network_32 : decode cL_network 32 = .ok (.iload 5, 2) := by decide +kernel
theorem dL_network_34 : decode cL_network 34 = .ok (.imul, 1) := by decide +kernel
theorem dL_network_35 : decode cL_network 35 = .ok (.iadd, 1) := by decide +kernel
theorem dL_network_36 : decode cL_network 36 = .ok (.iconst 1, 1) := by decide +kernel
theorem dL_network_37 : decode cL_network 37 = .ok (.iadd, 1) := by decide +kernel
theorem dL_network_38 : decode cL_network 38 = .ok (.ldc 137, 2) := by decide +kernel
theorem dL_network_40 : decode cL_network 40 = .ok (.invokestatic 138, 3) := by decide +kernel
theorem dL_network_43 : decode cL_network 43 = .ok (.istore 6, 2) := by decide +kernel
theorem dL_network_45 : decode cL_network 45 = .ok (.aload_n 0, 1) := by decide +kernel
theorem dL_network_46 : decode cL_network 46 = .ok (.iload_n 1, 1) := by decide +kernel
theorem dL_network_47 : decode cL_network 47 = .ok (.iconst 3, 1) := by decide +kernel
theorem dL_network_48 : decode cL_network 48 = .ok (.iload 5, 2) := by decide +kernel
theorem dL_network_50 : decode cL_network 50 = .ok (.imul, 1) := by decide +kernel
theorem dL_network_51 : decode cL_network 51 = .ok (.iadd, 1) := by decide +kernel
theorem dL_network_52 : decode cL_network 52 = .ok (.iconst 2, 1) := by decide +kernel
theorem dL_network_53 : decode cL_network 53 = .ok (.iadd, 1) := by decide +kernel
theorem dL_network_54 : decode cL_network 54 = .ok (.ldc 137, 2) := by decide +kernel
theorem dL_network_56 : decode cL_network 56 = .ok (.invokestatic 138, 3) := by decide +kernel
theorem dL_network_59 : decode cL_network 59 = .ok (.istore 7, 2) := by decide +kernel
theorem dL_network_61 : decode cL_network 61 = .ok (.iload 5, 2) := by decide +kernel
theorem dL_network_63 : decode cL_network 63 = .ok (.bipush 14, 2) := by decide +kernel
theorem dL_network_65 : decode cL_network 65 = .ok (.if_icmp .ge 7, 3) := by decide +kernel
theorem dL_network_68 : decode cL_network 68 = .ok (.iconst 0, 1) := by decide +kernel
theorem dL_network_69 : decode cL_network 69 = .ok (.goto 37, 3) := by decide +kernel
theorem dL_network_72 : decode cL_network 72 = .ok (.iload 5, 2) := by decide +kernel
theorem dL_network_74 : decode cL_network 74 = .ok (.bipush 16, 2) := by decide +kernel
theorem dL_network_76 : decode cL_network 76 = .ok (.if_icmp .ge 7, 3) := by decide +kernel
theorem dL_network_79 : decode cL_network 79 = .ok (.iconst 2, 1) := by decide +kernel
theorem dL_network_80 : decode cL_network 80 = .ok (.goto 26, 3) := by decide +kernel
theorem dL_network_83 : decode cL_network 83 = .ok (.iload 5, 2) := by decide +kernel
theorem dL_network_85 : decode cL_network 85 = .ok (.bipush 21, 2) := by decide +kernel
theorem dL_network_87 : decode cL_network 87 = .ok (.if_icmp .ge 7, 3) := by decide +kernel
theorem dL_network_90 : decode cL_network 90 = .ok (.iconst 3, 1) := by decide +kernel
theorem dL_network_91 : decode cL_network 91 = .ok (.goto 15, 3) := by decide +kernel
theorem dL_network_94 : decode cL_network 94 = .ok (.aload_n 0, 1) := by decide +kernel
theorem dL_network_95 : decode cL_network 95 = .ok (.iload_n 1, 1) := by decide +kernel
theorem dL_network_96 : decode cL_network 96 = .ok (.iconst 3, 1) := by decide +kernel
theorem dL_network_97 : decode cL_network 97 = .ok (.iload 5, 2) := by decide +kernel
theorem dL_network_99 : decode cL_network 99 = .ok (.imul, 1) := by decide +kernel
theorem dL_network_100 : decode cL_network 100 = .ok (.iadd, 1) := by decide +kernel
theorem dL_network_101 : decode cL_network 101 = .ok (.bipush 13, 2) := by decide +kernel
theorem dL_network_103 : decode cL_network 103 = .ok (.invokestatic 138, 3) := by decide +kernel
theorem dL_network_106 : decode cL_network 106 = .ok (.istore 8, 2) := by decide +kernel
theorem dL_network_108 : decode cL_network 108 = .ok (.aload_n 2, 1) := by decide +kernel
theorem dL_network_109 : decode cL_network 109 = .ok (.iload 8, 2) := by decide +kernel
theorem dL_network_111 : decode cL_network 111 = .ok (.iload 6, 2) := by decide +kernel
theorem dL_network_113 : decode cL_network 113 = .ok (.iload 5, 2) := by decide +kernel
theorem dL_network_115 : decode cL_network 115 = .ok (.bipush 16, 2) := by decide +kernel
theorem dL_network_117 : decode cL_network 117 = .ok (.if_icmp .ge 14, 3) := by decide +kernel
theorem dL_network_120 : decode cL_network 120 = .ok (.iload 7, 2) := by decide +kernel
theorem dL_network_122 : decode cL_network 122 = .ok (.iconst 4, 1) := by decide +kernel
theorem dL_network_123 : decode cL_network 123 = .ok (.idiv, 1) := by decide +kernel
theorem dL_network_124 : decode cL_network 124 = .ok (.iconst 4, 1) := by decide +kernel
theorem dL_network_125 : decode cL_network 125 = .ok (.imul, 1) := by decide +kernel
theorem dL_network_126 : decode cL_network 126 = .ok (.iconst 1, 1) := by decide +kernel
theorem dL_network_127 : decode cL_network 127 = .ok (.iadd, 1) := by decide +kernel
theorem dL_network_128 : decode cL_network 128 = .ok (.goto 5, 3) := by decide +kernel
theorem dL_network_131 : decode cL_network 131 = .ok (.iload 7, 2) := by decide +kernel
theorem dL_network_133 : decode cL_network 133 = .ok (.aload_n 3, 1) := by decide +kernel
theorem dL_network_134 : decode cL_network 134 = .ok (.aload 4, 2) := by decide +kernel
theorem dL_network_136 : decode cL_network 136 = .ok (.invokestatic 141, 3) := by decide +kernel
theorem dL_network_139 : decode cL_network 139 = .ok (.ifCond .eq 58, 3) := by decide +kernel
theorem dL_network_142 : decode cL_network 142 = .ok (.aload_n 2, 1) := by decide +kernel
theorem dL_network_143 : decode cL_network 143 = .ok (.aload_n 3, 1) := by decide +kernel
theorem dL_network_144 : decode cL_network 144 = .ok (.iload 6, 2) := by decide +kernel
theorem dL_network_146 : decode cL_network 146 = .ok (.bipush 7, 2) := by decide +kernel
theorem dL_network_148 : decode cL_network 148 = .ok (.idiv, 1) := by decide +kernel
theorem dL_network_149 : decode cL_network 149 = .ok (.bipush 10, 2) := by decide +kernel
theorem dL_network_151 : decode cL_network 151 = .ok (.irem, 1) := by decide +kernel
theorem dL_network_152 : decode cL_network 152 = .ok (.invokestatic 145, 3) := by decide +kernel
theorem dL_network_155 : decode cL_network 155 = .ok (.ifCond .eq 42, 3) := by decide +kernel
theorem dL_network_158 : decode cL_network 158 = .ok (.aload_n 2, 1) := by decide +kernel
theorem dL_network_159 : decode cL_network 159 = .ok (.invokestatic 149, 3) := by decide +kernel
theorem dL_network_162 : decode cL_network 162 = .ok (.ifCond .eq 35, 3) := by decide +kernel
theorem dL_network_165 : decode cL_network 165 = .ok (.aload_n 2, 1) := by decide +kernel
theorem dL_network_166 : decode cL_network 166 = .ok (.aload 4, 2) := by decide +kernel
theorem dL_network_168 : decode cL_network 168 = .ok (.invokestatic 153, 3) := by decide +kernel
theorem dL_network_171 : decode cL_network 171 = .ok (.ifCond .eq 26, 3) := by decide +kernel
theorem dL_network_174 : decode cL_network 174 = .ok (.aload_n 2, 1) := by decide +kernel
theorem dL_network_175 : decode cL_network 175 = .ok (.aload_n 3, 1) := by decide +kernel
theorem dL_network_176 : decode cL_network 176 = .ok (.iload 7, 2) := by decide +kernel
theorem dL_network_178 : decode cL_network 178 = .ok (.bipush 7, 2) := by decide +kernel
theorem dL_network_180 : decode cL_network 180 = .ok (.idiv, 1) := by decide +kernel
theorem dL_network_181 : decode cL_network 181 = .ok (.bipush 10, 2) := by decide +kernel
theorem dL_network_183 : decode cL_network 183 = .ok (.irem, 1) := by decide +kernel
theorem dL_network_184 : decode cL_network 184 = .ok (.iload 6, 2) := by decide +kernel
theorem dL_network_186 : decode cL_network 186 = .ok (.bipush 70, 2) := by decide +kernel
theorem dL_network_188 : decode cL_network 188 = .ok (.idiv, 1) := by decide +kernel
theorem dL_network_189 : decode cL_network 189 = .ok (.iconst 4, 1) := by decide +kernel
theorem dL_network_190 : decode cL_network 190 = .ok (.irem, 1) := by decide +kernel
theorem dL_network_191 : decode cL_network 191 = .ok (.invokestatic 157, 3) := by decide +kernel
theorem dL_network_194 : decode cL_network 194 = .ok (.ifCond .ne 5, 3) := by decide +kernel
theorem dL_network_197 : decode cL_network 197 = .ok (.iconst 0, 1) := by decide +kernel
theorem dL_network_198 : decode cL_network 198 = .ok (.ireturn, 1) := by decide +kernel
theorem dL_network_199 : decode cL_network 199 = .ok (.iinc 5 1, 3) := by decide +kernel
theorem dL_network_202 : decode cL_network 202 = .ok (.goto (-180), 3) := by decide +kernel
theorem dL_network_205 : decode cL_network 205 = .ok (.iconst 1, 1) := by decide +kernel
theorem dL_network_206 : decode cL_network 206 = .ok (.ireturn, 1) := by decide +kernel
theorem dL_law_0 : decode cL_law 0 = .ok (.aload_n 0, 1) := by decide +kernel
theorem dL_law_1 : decode cL_law 1 = .ok (.iconst 0, 1) := by decide +kernel
theorem dL_law_2 : decode cL_law 2 = .ok (.invokestatic 160, 3) := by decide +kernel
theorem dL_law_5 : decode cL_law 5 = .ok (.ifCond .eq 27, 3) := by decide +kernel
theorem dL_law_8 : decode cL_law 8 = .ok (.aload_n 0, 1) := by decide +kernel
theorem dL_law_9 : decode cL_law 9 = .ok (.sipush 170, 3) := by decide +kernel
theorem dL_law_12 : decode cL_law 12 = .ok (.invokestatic 160, 3) := by decide +kernel
theorem dL_law_15 : decode cL_law 15 = .ok (.ifCond .eq 17, 3) := by decide +kernel
theorem dL_law_18 : decode cL_law 18 = .ok (.aload_n 0, 1) := by decide +kernel
theorem dL_law_19 : decode cL_law 19 = .ok (.sipush 340, 3) := by decide +kernel
theorem dL_law_22 : decode cL_law 22 = .ok (.invokestatic 160, 3) := by decide +kernel
theorem dL_law_25 : decode cL_law 25 = .ok (.ifCond .eq 7, 3) := by decide +kernel
theorem dL_law_28 : decode cL_law 28 = .ok (.iconst 1, 1) := by decide +kernel
theorem dL_law_29 : decode cL_law 29 = .ok (.goto 4, 3) := by decide +kernel
theorem dL_law_32 : decode cL_law 32 = .ok (.iconst 0, 1) := by decide +kernel
theorem dL_law_33 : decode cL_law 33 = .ok (.ireturn, 1) := by decide +kernel
