theorem dX5_init_0 : decode cX5_init 0 = .ok (.aload_n 0, 1) := by decide +kernel
theorem dX5_init_1 : decode cX5_init 1 = .ok (.invokespecial 3, 3) := by decide +kernel
theorem dX5_init_4 : decode cX5_init 4 = .ok (.aload_n 0, 1) := by decide +kernel
theorem dX5_init_5 : decode cX5_init 5 = .ok (.bipush 108, 2) := by decide +kernel
theorem dX5_init_7 : decode cX5_init 7 = .ok (.newarray .int, 2) := by decide +kernel
theorem dX5_init_9 : decode cX5_init 9 = .ok (.putfield 9, 3) := by decide +kernel
theorem dX5_init_12 : decode cX5_init 12 = .ok (.aload_n 0, 1) := by decide +kernel
theorem dX5_init_13 : decode cX5_init 13 = .ok (.bipush 34, 2) := by decide +kernel
theorem dX5_init_15 : decode cX5_init 15 = .ok (.newarray .long, 2) := by decide +kernel
theorem dX5_init_17 : decode cX5_init 17 = .ok (.putfield 13, 3) := by decide +kernel
theorem dX5_init_20 : decode cX5_init 20 = .ok (.aload_n 0, 1) := by decide +kernel
theorem dX5_init_21 : decode cX5_init 21 = .ok (.sipush 864, 3) := by decide +kernel
theorem dX5_init_24 : decode cX5_init 24 = .ok (.newarray .int, 2) := by decide +kernel
theorem dX5_init_26 : decode cX5_init 26 = .ok (.putfield 17, 3) := by decide +kernel
theorem dX5_init_29 : decode cX5_init 29 = .ok (.aload_n 0, 1) := by decide +kernel
theorem dX5_init_30 : decode cX5_init 30 = .ok (.sipush 272, 3) := by decide +kernel
theorem dX5_init_33 : decode cX5_init 33 = .ok (.newarray .long, 2) := by decide +kernel
theorem dX5_init_35 : decode cX5_init 35 = .ok (.putfield 20, 3) := by decide +kernel
theorem dX5_init_38 : decode cX5_init 38 = .ok (.aload_n 0, 1) := by decide +kernel
theorem dX5_init_39 : decode cX5_init 39 = .ok (.bipush 108, 2) := by decide +kernel
theorem dX5_init_41 : decode cX5_init 41 = .ok (.newarray .int, 2) := by decide +kernel
theorem dX5_init_43 : decode cX5_init 43 = .ok (.putfield 23, 3) := by decide +kernel
theorem dX5_init_46 : decode cX5_init 46 = .ok (.aload_n 0, 1) := by decide +kernel
theorem dX5_init_47 : decode cX5_init 47 = .ok (.bipush 34, 2) := by decide +kernel
theorem dX5_init_49 : decode cX5_init 49 = .ok (.newarray .long, 2) := by decide +kernel
theorem dX5_init_51 : decode cX5_init 51 = .ok (.putfield 26, 3) := by decide +kernel
theorem dX5_init_54 : decode cX5_init 54 = .ok (.aload_n 0, 1) := by decide +kernel
theorem dX5_init_55 : decode cX5_init 55 = .ok (.bipush 108, 2) := by decide +kernel
theorem dX5_init_57 : decode cX5_init 57 = .ok (.newarray .int, 2) := by decide +kernel
theorem dX5_init_59 : decode cX5_init 59 = .ok (.putfield 29, 3) := by decide +kernel
theorem dX5_init_62 : decode cX5_init 62 = .ok (.aload_n 0, 1) := by decide +kernel
theorem dX5_init_63 : decode cX5_init 63 = .ok (.bipush 34, 2) := by decide +kernel
theorem dX5_init_65 : decode cX5_init 65 = .ok (.newarray .long, 2) := by decide +kernel
theorem dX5_init_67 : decode cX5_init 67 = .ok (.putfield 32, 3) := by decide +kernel
theorem dX5_init_70 : decode cX5_init 70 = .ok (.aload_n 0, 1) := by decide +kernel
theorem dX5_init_71 : decode cX5_init 71 = .ok (.bipush 60, 2) := by decide +kernel
theorem dX5_init_73 : decode cX5_init 73 = .ok (.newarray .int, 2) := by decide +kernel
theorem dX5_init_75 : decode cX5_init 75 = .ok (.putfield 35, 3) := by decide +kernel
theorem dX5_init_78 : decode cX5_init 78 = .ok (.aload_n 0, 1) := by decide +kernel
theorem dX5_init_79 : decode cX5_init 79 = .ok (.iconst (-1), 1) := by decide +kernel
theorem dX5_init_80 : decode cX5_init 80 = .ok (.putfield 38, 3) := by decide +kernel
theorem dX5_init_83 : decode cX5_init 83 = .ok (.aload_n 0, 1) := by decide +kernel
theorem dX5_init_84 : decode cX5_init 84 = .ok (.bipush 10, 2) := by decide +kernel
theorem dX5_init_86 : decode cX5_init 86 = .ok (.newarray .int, 2) := by decide +kernel
theorem dX5_init_88 : decode cX5_init 88 = .ok (.putfield 42, 3) := by decide +kernel
theorem dX5_init_91 : decode cX5_init 91 = .ok (.aload_n 0, 1) := by decide +kernel
theorem dX5_init_92 : decode cX5_init 92 = .ok (.bipush 10, 2) := by decide +kernel
theorem dX5_init_94 : decode cX5_init 94 = .ok (.newarray .int, 2) := by decide +kernel
theorem dX5_init_96 : decode cX5_init 96 = .ok (.putfield 45, 3) := by decide +kernel
theorem dX5_init_99 : decode cX5_init 99 = .ok (.aload_n 0, 1) := by decide +kernel
theorem dX5_init_100 : decode cX5_init 100 = .ok (.bipush 10, 2) := by decide +kernel
theorem dX5_init_102 : decode cX5_init 102 = .ok (.newarray .int, 2) := by decide +kernel
theorem dX5_init_104 : decode cX5_init 104 = .ok (.putfield 48, 3) := by decide +kernel
theorem dX5_init_107 : decode cX5_init 107 = .ok (.aload_n 0, 1) := by decide +kernel
theorem dX5_init_108 : decode cX5_init 108 = .ok (.bipush 10, 2) := by decide +kernel
theorem dX5_init_110 : decode cX5_init 110 = .ok (.newarray .boolean, 2) := by decide +kernel
theorem dX5_init_112 : decode cX5_init 112 = .ok (.putfield 51, 3) := by decide +kernel
theorem dX5_init_115 : decode cX5_init 115 = .ok (.aload_n 0, 1) := by decide +kernel
theorem dX5_init_116 : decode cX5_init 116 = .ok (.bipush 10, 2) := by decide +kernel
theorem dX5_init_118 : decode cX5_init 118 = .ok (.newarray .int, 2) := by decide +kernel
theorem dX5_init_120 : decode cX5_init 120 = .ok (.putfield 55, 3) := by decide +kernel
theorem dX5_init_123 : decode cX5_init 123 = .ok (.aload_n 0, 1) := by decide +kernel
theorem dX5_init_124 : decode cX5_init 124 = .ok (.bipush 10, 2) := by decide +kernel
theorem dX5_init_126 : decode cX5_init 126 = .ok (.newarray .int, 2) := by decide +kernel
theorem dX5_init_128 : decode cX5_init 128 = .ok (.putfield 58, 3) := by decide +kernel
theorem dX5_init_131 : decode cX5_init 131 = .ok (.aload_n 0, 1) := by decide +kernel
theorem dX5_init_132 : decode cX5_init 132 = .ok (.bipush 10, 2) := by decide +kernel
theorem dX5_init_134 : decode cX5_init 134 = .ok (.newarray .int, 2) := by decide +kernel
theorem dX5_init_136 : decode cX5_init 136 = .ok (.putfield 61, 3) := by decide +kernel
theorem dX5_init_139 : decode cX5_init 139 = .ok (.aload_n 0, 1) := by decide +kernel
theorem dX5_init_140 : decode cX5_init 140 = .ok (.bipush 10, 2) := by decide +kernel
theorem dX5_init_142 : decode cX5_init 142 = .ok (.newarray .int, 2) := by decide +kernel
theorem dX5_init_144 : decode cX5_init 144 = .ok (.putfield 64, 3) := by decide +kernel
theorem dX5_init_147 : decode cX5_init 147 = .ok (.aload_n 0, 1) := by decide +kernel
theorem dX5_init_148 : decode cX5_init 148 = .ok (.bipush 10, 2) := by decide +kernel
theorem dX5_init_150 : decode cX5_init 150 = .ok (.newarray .long, 2) := by decide +kernel
theorem dX5_init_152 : decode cX5_init 152 = .ok (.putfield 67, 3) := by decide +kernel
theorem dX5_init_155 : decode cX5_init 155 = .ok (.aload_n 0, 1) := by decide +kernel
theorem dX5_init_156 : decode cX5_init 156 = .ok (.bipush 10, 2) := by decide +kernel
theorem dX5_init_158 : decode cX5_init 158 = .ok (.newarray .int, 2) := by decide +kernel
theorem dX5_init_160 : decode cX5_init 160 = .ok (.putfield 70, 3) := by decide +kernel
theorem dX5_init_163 : decode cX5_init 163 = .ok (.aload_n 0, 1) := by decide +kernel
theorem dX5_init_164 : decode cX5_init 164 = .ok (.bipush 10, 2) := by decide +kernel
theorem dX5_init_166 : decode cX5_init 166 = .ok (.newarray .int, 2) := by decide +kernel
theorem dX5_init_168 : decode cX5_init 168 = .ok (.putfield 73, 3) := by decide +kernel
theorem dX5_init_171 : decode cX5_init 171 = .ok (.aload_n 0, 1) := by decide +kernel
theorem dX5_init_172 : decode cX5_init 172 = .ok (.bipush 10, 2) := by decide +kernel
theorem dX5_init_174 : decode cX5_init 174 = .ok (.newarray .int, 2) := by decide +kernel
theorem dX5_init_176 : decode cX5_init 176 = .ok (.putfield 76, 3) := by decide +kernel
theorem dX5_init_179 : decode cX5_init 179 = .ok (.aload_n 0, 1) := by decide +kernel
theorem dX5_init_180 : decode cX5_init 180 = .ok (.bipush 10, 2) := by decide +kernel
theorem dX5_init_182 : decode cX5_init 182 = .ok (.newarray .long, 2) := by decide +kernel
theorem dX5_init_184 : decode cX5_init 184 = .ok (.putfield 79, 3) := by decide +kernel
theorem dX5_init_187 : decode cX5_init 187 = .ok (.aload_n 0, 1) := by decide +kernel
theorem dX5_init_188 : decode cX5_init 188 = .ok (.bipush 10, 2) := by decide +kernel
theorem dX5_init_190 : decode cX5_init 190 = .ok (.newarray .boolean, 2) := by decide +kernel
theorem dX5_init_192 : decode cX5_init 192 = .ok (.putfield 82, 3) := by decide +kernel
theorem dX5_init_195 : decode cX5_init 195 = .ok (.aload_n 0, 1) := by decide +kernel
theorem dX5_init_196 : decode cX5_init 196 = .ok (.getfield 9, 3) := by decide +kernel
theorem dX5_init_199 : decode cX5_init 199 = .ok (.iconst 0, 1) := by decide +kernel
theorem dX5_init_200 : decode cX5_init 200 = .ok (.sipush 900, 3) := by decide +kernel
theorem dX5_init_203 : decode cX5_init 203 = .ok (.iastore, 1) := by decide +kernel
theorem dX5_init_204 : decode cX5_init 204 = .ok (.aload_n 0, 1) := by decide +kernel
theorem dX5_init_205 : decode cX5_init 205 = .ok (.getfield 9, 3) := by decide +kernel
theorem dX5_init_208 : decode cX5_init 208 = .ok (.iconst 1, 1) := by decide +kernel
theorem dX5_init_209 : decode cX5_init 209 = .ok (.bipush 100, 2) := by decide +kernel
theorem dX5_init_211 : decode cX5_init 211 = .ok (.iastore, 1) := by decide +kernel
theorem dX5_init_212 : decode cX5_init 212 = .ok (.aload_n 0, 1) := by decide +kernel
theorem dX5_init_213 : decode cX5_init 213 = .ok (.getfield 9, 3) := by decide +kernel
theorem dX5_init_216 : decode cX5_init 216 = .ok (.iconst 3, 1) := by decide +kernel
theorem dX5_init_217 : decode cX5_init 217 = .ok (.bipush 10, 2) := by decide +kernel
theorem dX5_init_219 : decode cX5_init 219 = .ok (.iastore, 1) := by decide +kernel
theorem dX5_init_220 : decode cX5_init 220 = .ok (.aload_n 0, 1) := by decide +kernel
theorem dX5_init_221 : decode cX5_init 221 = .ok (.getfield 9, 3) := by decide +kernel
theorem dX5_init_224 : decode cX5_init 224 = .ok (.iconst 4, 1) := by decide +kernel
theorem dX5_init_225 : decode cX5_init 225 = .ok (.ldc 85, 2) := by decide +kernel
theorem dX5_init_227 : decode cX5_init 227 = .ok (.iastore, 1) := by decide +kernel
theorem dX5_init_228 : decode cX5_init 228 = .ok (.aload_n 0, 1) := by decide +kernel
theorem dX5_init_229 : decode cX5_init 229 = .ok (.getfield 9, 3) := by decide +kernel
theorem dX5_init_232 : decode cX5_init 232 = .ok (.iconst 5, 1) := by decide +kernel
theorem dX5_init_233 : decode cX5_init 233 = .ok (.bipush 100, 2) := by decide +kernel
theorem dX5_init_235 : decode cX5_init 235 = .ok (.iastore, 1) := by decide +kernel
theorem dX5_init_236 : decode cX5_init 236 = .ok (.aload_n 0, 1) := by decide +kernel
theorem dX5_init_237 : decode cX5_init 237 = .ok (.getfield 9, 3) := by decide +kernel
theorem dX5_init_240 : decode cX5_init 240 = .ok (.bipush 6, 2) := by decide +kernel
theorem dX5_init_242 : decode cX5_init 242 = .ok (.iconst 5, 1) := by decide +kernel
theorem dX5_init_243 : decode cX5_init 243 = .ok (.iastore, 1) := by decide +kernel
theorem dX5_init_244 : decode cX5_init 244 = .ok (.return_, 1) := by decide +kernel
theorem dX5_thrown_0 : decode cX5_thrown 0 = .ok (.aload_n 0, 1) := by decide +kernel
theorem dX5_thrown_1 : decode cX5_thrown 1 = .ok (.getfield 86, 3) := by decide +kernel
theorem dX5_thrown_4 : decode cX5_thrown 4 = .ok (.ireturn, 1) := by decide +kernel
theorem dX5_raises_0 : decode cX5_raises 0 = .ok (.aload_n 0, 1) := by decide +kernel
theorem dX5_raises_1 : decode cX5_raises 1 = .ok (.iload_n 1, 1) := by decide +kernel
theorem dX5_raises_2 : decode cX5_raises 2 = .ok (.putfield 86, 3) := by decide +kernel
theorem dX5_raises_5 : decode cX5_raises 5 = .ok (.iconst 0, 1) := by decide +kernel
theorem dX5_raises_6 : decode cX5_raises 6 = .ok (.ireturn, 1) := by decide +kernel
theorem dX5_refuses_0 : decode cX5_refuses 0 = .ok (.aload_n 0, 1) := by decide +kernel
theorem dX5_refuses_1 : decode cX5_refuses 1 = .ok (.iload_n 1, 1) := by decide +kernel
theorem dX5_refuses_2 : decode cX5_refuses 2 = .ok (.putfield 89, 3) := by decide +kernel
theorem dX5_refuses_5 : decode cX5_refuses 5 = .ok (.aload_n 0, 1) := by decide +kernel
theorem dX5_refuses_6 : decode cX5_refuses 6 = .ok (.iload_n 2, 1) := by decide +kernel
theorem dX5_refuses_7 : decode cX5_refuses 7 = .ok (.invokevirtual 92, 3) := by decide +kernel
theorem dX5_refuses_10 : decode cX5_refuses 10 = .ok (.ireturn, 1) := by decide +kernel
theorem dX5_in_0 : decode cX5_in 0 = .ok (.iload_n 0, 1) := by decide +kernel
theorem dX5_in_1 : decode cX5_in 1 = .ok (.iload_n 1, 1) := by decide +kernel
theorem dX5_in_2 : decode cX5_in 2 = .ok (.if_icmp .lt 12, 3) := by decide +kernel
theorem dX5_in_5 : decode cX5_in 5 = .ok (.iload_n 0, 1) := by decide +kernel
theorem dX5_in_6 : decode cX5_in 6 = .ok (.iload_n 2, 1) := by decide +kernel
theorem dX5_in_7 : decode cX5_in 7 = .ok (.if_icmp .gt 7, 3) := by decide +kernel
theorem dX5_in_10 : decode cX5_in 10 = .ok (.iconst 1, 1) := by decide +kernel
theorem dX5_in_11 : decode cX5_in 11 = .ok (.goto 4, 3) := by decide +kernel
theorem dX5_in_14 : decode cX5_in 14 = .ok (.iconst 0, 1) := by decide +kernel
theorem dX5_in_15 : decode cX5_in 15 = .ok (.ireturn, 1) := by decide +kernel
theorem dX5_isNode_0 : decode cX5_isNode 0 = .ok (.iload_n 0, 1) := by decide +kernel
theorem dX5_isNode_1 : decode cX5_isNode 1 = .ok (.iconst 0, 1) := by decide +kernel
theorem dX5_isNode_2 : decode cX5_isNode 2 = .ok (.bipush 9, 2) := by decide +kernel
theorem dX5_isNode_4 : decode cX5_isNode 4 = .ok (.invokestatic 96, 3) := by decide +kernel
theorem dX5_isNode_7 : decode cX5_isNode 7 = .ok (.ireturn, 1) := by decide +kernel
theorem dX5_changes_0 : decode cX5_changes 0 = .ok (.aload_n 0, 1) := by decide +kernel
theorem dX5_changes_1 : decode cX5_changes 1 = .ok (.invokevirtual 100, 3) := by decide +kernel
theorem dX5_changes_4 : decode cX5_changes 4 = .ok (.aload_n 0, 1) := by decide +kernel
theorem dX5_changes_5 : decode cX5_changes 5 = .ok (.invokevirtual 103, 3) := by decide +kernel
theorem dX5_changes_8 : decode cX5_changes 8 = .ok (.return_, 1) := by decide +kernel
theorem dX5_pipes_0 : decode cX5_pipes 0 = .ok (.aload_n 0, 1) := by decide +kernel
theorem dX5_pipes_1 : decode cX5_pipes 1 = .ok (.getfield 9, 3) := by decide +kernel
theorem dX5_pipes_4 : decode cX5_pipes 4 = .ok (.bipush 7, 2) := by decide +kernel
theorem dX5_pipes_6 : decode cX5_pipes 6 = .ok (.iaload, 1) := by decide +kernel
theorem dX5_pipes_7 : decode cX5_pipes 7 = .ok (.ireturn, 1) := by decide +kernel
theorem dX5_isPipe_0 : decode cX5_isPipe 0 = .ok (.iload_n 1, 1) := by decide +kernel
theorem dX5_isPipe_1 : decode cX5_isPipe 1 = .ok (.iconst 0, 1) := by decide +kernel
theorem dX5_isPipe_2 : decode cX5_isPipe 2 = .ok (.aload_n 0, 1) := by decide +kernel
theorem dX5_isPipe_3 : decode cX5_isPipe 3 = .ok (.invokevirtual 106, 3) := by decide +kernel
theorem dX5_isPipe_6 : decode cX5_isPipe 6 = .ok (.iconst 1, 1) := by decide +kernel
theorem dX5_isPipe_7 : decode cX5_isPipe 7 = .ok (.isub, 1) := by decide +kernel
theorem dX5_isPipe_8 : decode cX5_isPipe 8 = .ok (.invokestatic 96, 3) := by decide +kernel
theorem dX5_isPipe_11 : decode cX5_isPipe 11 = .ok (.ireturn, 1) := by decide +kernel
theorem dX5_of_0 : decode cX5_of 0 = .ok (.aload_n 0, 1) := by decide +kernel
theorem dX5_of_1 : decode cX5_of 1 = .ok (.getfield 9, 3) := by decide +kernel
theorem dX5_of_4 : decode cX5_of 4 = .ok (.bipush 8, 2) := by decide +kernel
theorem dX5_of_6 : decode cX5_of 6 = .ok (.iconst 4, 1) := by decide +kernel
theorem dX5_of_7 : decode cX5_of 7 = .ok (.iload_n 1, 1) := by decide +kernel
theorem dX5_of_8 : decode cX5_of 8 = .ok (.imul, 1) := by decide +kernel
theorem dX5_of_9 : decode cX5_of 9 = .ok (.iadd, 1) := by decide +kernel
theorem dX5_of_10 : decode cX5_of 10 = .ok (.iload_n 2, 1) := by decide +kernel
theorem dX5_of_11 : decode cX5_of 11 = .ok (.iadd, 1) := by decide +kernel
theorem dX5_of_12 : decode cX5_of 12 = .ok (.iaload, 1) := by decide +kernel
theorem dX5_of_13 : decode cX5_of 13 = .ok (.ireturn, 1) := by decide +kernel
theorem dX5_across_0 : decode cX5_across 0 = .ok (.aload_n 0, 1) := by decide +kernel
theorem dX5_across_1 : decode cX5_across 1 = .ok (.iload_n 1, 1) := by decide +kernel
theorem dX5_across_2 : decode cX5_across 2 = .ok (.iconst 0, 1) := by decide +kernel
theorem dX5_across_3 : decode cX5_across 3 = .ok (.invokevirtual 110, 3) := by decide +kernel
theorem dX5_across_6 : decode cX5_across 6 = .ok (.iload_n 2, 1) := by decide +kernel
theorem dX5_across_7 : decode cX5_across 7 = .ok (.if_icmp .ne 12, 3) := by decide +kernel
theorem dX5_across_10 : decode cX5_across 10 = .ok (.aload_n 0, 1) := by decide +kernel
theorem dX5_across_11 : decode cX5_across 11 = .ok (.iload_n 1, 1) := by decide +kernel
theorem dX5_across_12 : decode cX5_across 12 = .ok (.iconst 1, 1) := by decide +kernel
theorem dX5_across_13 : decode cX5_across 13 = .ok (.invokevirtual 110, 3) := by decide +kernel
theorem dX5_across_16 : decode cX5_across 16 = .ok (.goto 23, 3) := by decide +kernel
theorem dX5_across_19 : decode cX5_across 19 = .ok (.aload_n 0, 1) := by decide +kernel
theorem dX5_across_20 : decode cX5_across 20 = .ok (.iload_n 1, 1) := by decide +kernel
theorem dX5_across_21 : decode cX5_across 21 = .ok (.iconst 1, 1) := by decide +kernel
theorem dX5_across_22 : decode cX5_across 22 = .ok (.invokevirtual 110, 3) := by decide +kernel
theorem dX5_across_25 : decode cX5_across 25 = .ok (.iload_n 2, 1) := by decide +kernel
theorem dX5_across_26 : decode cX5_across 26 = .ok (.if_icmp .ne 12, 3) := by decide +kernel
theorem dX5_across_29 : decode cX5_across 29 = .ok (.aload_n 0, 1) := by decide +kernel
theorem dX5_across_30 : decode cX5_across 30 = .ok (.iload_n 1, 1) := by decide +kernel
theorem dX5_across_31 : decode cX5_across 31 = .ok (.iconst 0, 1) := by decide +kernel
theorem dX5_across_32 : decode cX5_across 32 = .ok (.invokevirtual 110, 3) := by decide +kernel
theorem dX5_across_35 : decode cX5_across 35 = .ok (.goto 4, 3) := by decide +kernel
theorem dX5_across_38 : decode cX5_across 38 = .ok (.iconst (-1), 1) := by decide +kernel
theorem dX5_across_39 : decode cX5_across 39 = .ok (.ireturn, 1) := by decide +kernel
theorem dX5_measure_0 : decode cX5_measure 0 = .ok (.iconst 0, 1) := by decide +kernel
theorem dX5_measure_1 : decode cX5_measure 1 = .ok (.istore_n 2, 1) := by decide +kernel
theorem dX5_measure_2 : decode cX5_measure 2 = .ok (.iload_n 2, 1) := by decide +kernel
theorem dX5_measure_3 : decode cX5_measure 3 = .ok (.bipush 10, 2) := by decide +kernel
theorem dX5_measure_5 : decode cX5_measure 5 = .ok (.if_icmp .ge 16, 3) := by decide +kernel
theorem dX5_measure_8 : decode cX5_measure 8 = .ok (.aload_n 0, 1) := by decide +kernel
theorem dX5_measure_9 : decode cX5_measure 9 = .ok (.getfield 42, 3) := by decide +kernel
theorem dX5_measure_12 : decode cX5_measure 12 = .ok (.iload_n 2, 1) := by decide +kernel
theorem dX5_measure_13 : decode cX5_measure 13 = .ok (.iconst (-1), 1) := by decide +kernel
theorem dX5_measure_14 : decode cX5_measure 14 = .ok (.iastore, 1) := by decide +kernel
theorem dX5_measure_15 : decode cX5_measure 15 = .ok (.iinc 2 1, 3) := by decide +kernel
theorem dX5_measure_18 : decode cX5_measure 18 = .ok (.goto (-16), 3) := by decide +kernel
theorem dX5_measure_21 : decode cX5_measure 21 = .ok (.iconst 0, 1) := by decide +kernel
theorem dX5_measure_22 : decode cX5_measure 22 = .ok (.istore_n 2, 1) := by decide +kernel
theorem dX5_measure_23 : decode cX5_measure 23 = .ok (.iconst 0, 1) := by decide +kernel
theorem dX5_measure_24 : decode cX5_measure 24 = .ok (.istore_n 3, 1) := by decide +kernel
theorem dX5_measure_25 : decode cX5_measure 25 = .ok (.aload_n 0, 1) := by decide +kernel
theorem dX5_measure_26 : decode cX5_measure 26 = .ok (.getfield 42, 3) := by decide +kernel
theorem dX5_measure_29 : decode cX5_measure 29 = .ok (.iload_n 1, 1) := by decide +kernel
theorem dX5_measure_30 : decode cX5_measure 30 = .ok (.iconst 0, 1) := by decide +kernel
theorem dX5_measure_31 : decode cX5_measure 31 = .ok (.iastore, 1) := by decide +kernel
theorem dX5_measure_32 : decode cX5_measure 32 = .ok (.aload_n 0, 1) := by decide +kernel
theorem dX5_measure_33 : decode cX5_measure 33 = .ok (.getfield 45, 3) := by decide +kernel
theorem dX5_measure_36 : decode cX5_measure 36 = .ok (.iload_n 3, 1) := by decide +kernel
theorem dX5_measure_37 : decode cX5_measure 37 = .ok (.iinc 3 1, 3) := by decide +kernel
theorem dX5_measure_40 : decode cX5_measure 40 = .ok (.iload_n 1, 1) := by decide +kernel
theorem dX5_measure_41 : decode cX5_measure 41 = .ok (.iastore, 1) := by decide +kernel
theorem dX5_measure_42 : decode cX5_measure 42 = .ok (.iload_n 2, 1) := by decide +kernel
theorem dX5_measure_43 : decode cX5_measure 43 = .ok (.iload_n 3, 1) := by decide +kernel
theorem dX5_measure_44 : decode cX5_measure 44 = .ok (.if_icmp .ge 90, 3) := by decide +kernel
theorem dX5_measure_47 : decode cX5_measure 47 = .ok (.aload_n 0, 1) := by decide +kernel
theorem dX5_measure_48 : decode cX5_measure 48 = .ok (.getfield 45, 3) := by decide +kernel
theorem dX5_measure_51 : decode cX5_measure 51 = .ok (.iload_n 2, 1) := by decide +kernel
theorem dX5_measure_52 : decode cX5_measure 52 = .ok (.iinc 2 1, 3) := by decide +kernel
theorem dX5_measure_55 : decode cX5_measure 55 = .ok (.iaload, 1) := by decide +kernel
theorem dX5_measure_56 : decode cX5_measure 56 = .ok (.istore 4, 2) := by decide +kernel
theorem dX5_measure_58 : decode cX5_measure 58 = .ok (.iconst 0, 1) := by decide +kernel
theorem dX5_measure_59 : decode cX5_measure 59 = .ok (.istore 5, 2) := by decide +kernel
theorem dX5_measure_61 : decode cX5_measure 61 = .ok (.iload 5, 2) := by decide +kernel
theorem dX5_measure_63 : decode cX5_measure 63 = .ok (.aload_n 0, 1) := by decide +kernel
theorem dX5_measure_64 : decode cX5_measure 64 = .ok (.invokevirtual 106, 3) := by decide +kernel
theorem dX5_measure_67 : decode cX5_measure 67 = .ok (.if_icmp .ge 64, 3) := by decide +kernel
theorem dX5_measure_70 : decode cX5_measure 70 = .ok (.aload_n 0, 1) := by decide +kernel
theorem dX5_measure_71 : decode cX5_measure 71 = .ok (.iload 5, 2) := by decide +kernel
theorem dX5_measure_73 : decode cX5_measure 73 = .ok (.iload 4, 2) := by decide +kernel
theorem dX5_measure_75 : decode cX5_measure 75 = .ok (.invokevirtual 114, 3) := by decide +kernel
theorem dX5_measure_78 : decode cX5_measure 78 = .ok (.istore 6, 2) := by decide +kernel
theorem dX5_measure_80 : decode cX5_measure 80 = .ok (.iload 6, 2) := by decide +kernel
theorem dX5_measure_82 : decode cX5_measure 82 = .ok (.ifCond .lt 43, 3) := by decide +kernel
theorem dX5_measure_85 : decode cX5_measure 85 = .ok (.aload_n 0, 1) := by decide +kernel
theorem dX5_measure_86 : decode cX5_measure 86 = .ok (.getfield 42, 3) := by decide +kernel
theorem dX5_measure_89 : decode cX5_measure 89 = .ok (.iload 6, 2) := by decide +kernel
theorem dX5_measure_91 : decode cX5_measure 91 = .ok (.iaload, 1) := by decide +kernel
theorem dX5_measure_92 : decode cX5_measure 92 = .ok (.ifCond .lt 6, 3) := by decide +kernel
theorem dX5_measure_95 : decode cX5_measure 95 = .ok (.goto 30, 3) := by decide +kernel
theorem dX5_measure_98 : decode cX5_measure 98 = .ok (.aload_n 0, 1) := by decide +kernel
theorem dX5_measure_99 : decode cX5_measure 99 = .ok (.getfield 42, 3) := by decide +kernel
theorem dX5_measure_102 : decode cX5_measure 102 = .ok (.iload 6, 2) := by decide +kernel
theorem dX5_measure_104 : decode cX5_measure 104 = .ok (.aload_n 0, 1) := by decide +kernel
theorem dX5_measure_105 : decode cX5_measure 105 = .ok (.getfield 42, 3) := by decide +kernel
theorem dX5_measure_108 : decode cX5_measure 108 = .ok (.iload 4, 2) := by decide +kernel
theorem dX5_measure_110 : decode cX5_measure 110 = .ok (.iaload, 1) := by decide +kernel
theorem dX5_measure_111 : decode cX5_measure 111 = .ok (.iconst 1, 1) := by decide +kernel
theorem dX5_measure_112 : decode cX5_measure 112 = .ok (.iadd, 1) := by decide +kernel
theorem dX5_measure_113 : decode cX5_measure 113 = .ok (.iastore, 1) := by decide +kernel
theorem dX5_measure_114 : decode cX5_measure 114 = .ok (.aload_n 0, 1) := by decide +kernel
theorem dX5_measure_115 : decode cX5_measure 115 = .ok (.getfield 45, 3) := by decide +kernel
theorem dX5_measure_118 : decode cX5_measure 118 = .ok (.iload_n 3, 1) := by decide +kernel
theorem dX5_measure_119 : decode cX5_measure 119 = .ok (.iinc 3 1, 3) := by decide +kernel
theorem dX5_measure_122 : decode cX5_measure 122 = .ok (.iload 6, 2) := by decide +kernel
theorem dX5_measure_124 : decode cX5_measure 124 = .ok (.iastore, 1) := by decide +kernel
theorem dX5_measure_125 : decode cX5_measure 125 = .ok (.iinc 5 1, 3) := by decide +kernel
theorem dX5_measure_128 : decode cX5_measure 128 = .ok (.goto (-67), 3) := by decide +kernel
theorem dX5_measure_131 : decode cX5_measure 131 = .ok (.goto (-89), 3) := by decide +kernel
theorem dX5_measure_134 : decode cX5_measure 134 = .ok (.return_, 1) := by decide +kernel
theorem dX5_findsLoop_0 : decode cX5_findsLoop 0 = .ok (.aload_n 0, 1) := by decide +kernel
theorem dX5_findsLoop_1 : decode cX5_findsLoop 1 = .ok (.iconst 0, 1) := by decide +kernel
theorem dX5_findsLoop_2 : decode cX5_findsLoop 2 = .ok (.invokevirtual 117, 3) := by decide +kernel
theorem dX5_findsLoop_5 : decode cX5_findsLoop 5 = .ok (.iconst 0, 1) := by decide +kernel
theorem dX5_findsLoop_6 : decode cX5_findsLoop 6 = .ok (.istore_n 1, 1) := by decide +kernel
theorem dX5_findsLoop_7 : decode cX5_findsLoop 7 = .ok (.iload_n 1, 1) := by decide +kernel
theorem dX5_findsLoop_8 : decode cX5_findsLoop 8 = .ok (.bipush 10, 2) := by decide +kernel
theorem dX5_findsLoop_10 : decode cX5_findsLoop 10 = .ok (.if_icmp .ge 36, 3) := by decide +kernel
theorem dX5_findsLoop_13 : decode cX5_findsLoop 13 = .ok (.aload_n 0, 1) := by decide +kernel
theorem dX5_findsLoop_14 : decode cX5_findsLoop 14 = .ok (.getfield 51, 3) := by decide +kernel
theorem dX5_findsLoop_17 : decode cX5_findsLoop 17 = .ok (.iload_n 1, 1) := by decide +kernel
theorem dX5_findsLoop_18 : decode cX5_findsLoop 18 = .ok (.aload_n 0, 1) := by decide +kernel
theorem dX5_findsLoop_19 : decode cX5_findsLoop 19 = .ok (.getfield 42, 3) := by decide +kernel
theorem dX5_findsLoop_22 : decode cX5_findsLoop 22 = .ok (.iload_n 1, 1) := by decide +kernel
theorem dX5_findsLoop_23 : decode cX5_findsLoop 23 = .ok (.iaload, 1) := by decide +kernel
theorem dX5_findsLoop_24 : decode cX5_findsLoop 24 = .ok (.ifCond .lt 7, 3) := by decide +kernel
theorem dX5_findsLoop_27 : decode cX5_findsLoop 27 = .ok (.iconst 1, 1) := by decide +kernel
theorem dX5_findsLoop_28 : decode cX5_findsLoop 28 = .ok (.goto 4, 3) := by decide +kernel
theorem dX5_findsLoop_31 : decode cX5_findsLoop 31 = .ok (.iconst 0, 1) := by decide +kernel
theorem dX5_findsLoop_32 : decode cX5_findsLoop 32 = .ok (.bastore, 1) := by decide +kernel
theorem dX5_findsLoop_33 : decode cX5_findsLoop 33 = .ok (.aload_n 0, 1) := by decide +kernel
theorem dX5_findsLoop_34 : decode cX5_findsLoop 34 = .ok (.getfield 48, 3) := by decide +kernel
theorem dX5_findsLoop_37 : decode cX5_findsLoop 37 = .ok (.iload_n 1, 1) := by decide +kernel
theorem dX5_findsLoop_38 : decode cX5_findsLoop 38 = .ok (.iconst 0, 1) := by decide +kernel
theorem dX5_findsLoop_39 : decode cX5_findsLoop 39 = .ok (.iastore, 1) := by decide +kernel
theorem dX5_findsLoop_40 : decode cX5_findsLoop 40 = .ok (.iinc 1 1, 3) := by decide +kernel
theorem dX5_findsLoop_43 : decode cX5_findsLoop 43 = .ok (.goto (-36), 3) := by decide +kernel
theorem dX5_findsLoop_46 : decode cX5_findsLoop 46 = .ok (.iconst 1, 1) := by decide +kernel
theorem dX5_findsLoop_47 : decode cX5_findsLoop 47 = .ok (.istore_n 1, 1) := by decide +kernel
theorem dX5_findsLoop_48 : decode cX5_findsLoop 48 = .ok (.iload_n 1, 1) := by decide +kernel
theorem dX5_findsLoop_49 : decode cX5_findsLoop 49 = .ok (.ifCond .eq 151, 3) := by decide +kernel
theorem dX5_findsLoop_52 : decode cX5_findsLoop 52 = .ok (.iconst 0, 1) := by decide +kernel
theorem dX5_findsLoop_53 : decode cX5_findsLoop 53 = .ok (.istore_n 1, 1) := by decide +kernel
theorem dX5_findsLoop_54 : decode cX5_findsLoop 54 = .ok (.iconst 0, 1) := by decide +kernel
theorem dX5_findsLoop_55 : decode cX5_findsLoop 55 = .ok (.istore_n 2, 1) := by decide +kernel
theorem dX5_findsLoop_56 : decode cX5_findsLoop 56 = .ok (.iload_n 2, 1) := by decide +kernel
theorem dX5_findsLoop_57 : decode cX5_findsLoop 57 = .ok (.bipush 10, 2) := by decide +kernel
theorem dX5_findsLoop_59 : decode cX5_findsLoop 59 = .ok (.if_icmp .ge 16, 3) := by decide +kernel
theorem dX5_findsLoop_62 : decode cX5_findsLoop 62 = .ok (.aload_n 0, 1) := by decide +kernel
theorem dX5_findsLoop_63 : decode cX5_findsLoop 63 = .ok (.getfield 48, 3) := by decide +kernel
theorem dX5_findsLoop_66 : decode cX5_findsLoop 66 = .ok (.iload_n 2, 1) := by decide +kernel
theorem dX5_findsLoop_67 : decode cX5_findsLoop 67 = .ok (.iconst 0, 1) := by decide +kernel
theorem dX5_findsLoop_68 : decode cX5_findsLoop 68 = .ok (.iastore, 1) := by decide +kernel
theorem dX5_findsLoop_69 : decode cX5_findsLoop 69 = .ok (.iinc 2 1, 3) := by decide +kernel
theorem dX5_findsLoop_72 : decode cX5_findsLoop 72 = .ok (.goto (-16), 3) := by decide +kernel
theorem dX5_findsLoop_75 : decode cX5_findsLoop 75 = .ok (.iconst 0, 1) := by decide +kernel
theorem dX5_findsLoop_76 : decode cX5_findsLoop 76 = .ok (.istore_n 2, 1) := by decide +kernel
theorem dX5_findsLoop_77 : decode cX5_findsLoop 77 = .ok (.iload_n 2, 1) := by decide +kernel
theorem dX5_findsLoop_78 : decode cX5_findsLoop 78 = .ok (.aload_n 0, 1) := by decide +kernel
theorem dX5_findsLoop_79 : decode cX5_findsLoop 79 = .ok (.invokevirtual 106, 3) := by decide +kernel
theorem dX5_findsLoop_82 : decode cX5_findsLoop 82 = .ok (.if_icmp .ge 70, 3) := by decide +kernel
theorem dX5_findsLoop_85 : decode cX5_findsLoop 85 = .ok (.aload_n 0, 1) := by decide +kernel
theorem dX5_findsLoop_86 : decode cX5_findsLoop 86 = .ok (.getfield 51, 3) := by decide +kernel
theorem dX5_findsLoop_89 : decode cX5_findsLoop 89 = .ok (.aload_n 0, 1) := by decide +kernel
theorem dX5_findsLoop_90 : decode cX5_findsLoop 90 = .ok (.iload_n 2, 1) := by decide +kernel
theorem dX5_findsLoop_91 : decode cX5_findsLoop 91 = .ok (.iconst 0, 1) := by decide +kernel
theorem dX5_findsLoop_92 : decode cX5_findsLoop 92 = .ok (.invokevirtual 110, 3) := by decide +kernel
theorem dX5_findsLoop_95 : decode cX5_findsLoop 95 = .ok (.baload, 1) := by decide +kernel
theorem dX5_findsLoop_96 : decode cX5_findsLoop 96 = .ok (.ifCond .eq 50, 3) := by decide +kernel
theorem dX5_findsLoop_99 : decode cX5_findsLoop 99 = .ok (.aload_n 0, 1) := by decide +kernel
theorem dX5_findsLoop_100 : decode cX5_findsLoop 100 = .ok (.getfield 51, 3) := by decide +kernel
theorem dX5_findsLoop_103 : decode cX5_findsLoop 103 = .ok (.aload_n 0, 1) := by decide +kernel
theorem dX5_findsLoop_104 : decode cX5_findsLoop 104 = .ok (.iload_n 2, 1) := by decide +kernel
theorem dX5_findsLoop_105 : decode cX5_findsLoop 105 = .ok (.iconst 1, 1) := by decide +kernel
theorem dX5_findsLoop_106 : decode cX5_findsLoop 106 = .ok (.invokevirtual 110, 3) := by decide +kernel
theorem dX5_findsLoop_109 : decode cX5_findsLoop 109 = .ok (.baload, 1) := by decide +kernel
theorem dX5_findsLoop_110 : decode cX5_findsLoop 110 = .ok (.ifCond .ne 6, 3) := by decide +kernel
theorem dX5_findsLoop_113 : decode cX5_findsLoop 113 = .ok (.goto 33, 3) := by decide +kernel
theorem dX5_findsLoop_116 : decode cX5_findsLoop 116 = .ok (.aload_n 0, 1) := by decide +kernel
theorem dX5_findsLoop_117 : decode cX5_findsLoop 117 = .ok (.getfield 48, 3) := by decide +kernel
theorem dX5_findsLoop_120 : decode cX5_findsLoop 120 = .ok (.aload_n 0, 1) := by decide +kernel
theorem dX5_findsLoop_121 : decode cX5_findsLoop 121 = .ok (.iload_n 2, 1) := by decide +kernel
theorem dX5_findsLoop_122 : decode cX5_findsLoop 122 = .ok (.iconst 0, 1) := by decide +kernel
theorem dX5_findsLoop_123 : decode cX5_findsLoop 123 = .ok (.invokevirtual 110, 3) := by decide +kernel
theorem dX5_findsLoop_126 : decode cX5_findsLoop 126 = .ok (.dup2, 1) := by decide +kernel
theorem dX5_findsLoop_127 : decode cX5_findsLoop 127 = .ok (.iaload, 1) := by decide +kernel
theorem dX5_findsLoop_128 : decode cX5_findsLoop 128 = .ok (.iconst 1, 1) := by decide +kernel
theorem dX5_findsLoop_129 : decode cX5_findsLoop 129 = .ok (.iadd, 1) := by decide +kernel
theorem dX5_findsLoop_130 : decode cX5_findsLoop 130 = .ok (.iastore, 1) := by decide +kernel
theorem dX5_findsLoop_131 : decode cX5_findsLoop 131 = .ok (.aload_n 0, 1) := by decide +kernel
theorem dX5_findsLoop_132 : decode cX5_findsLoop 132 = .ok (.getfield 48, 3) := by decide +kernel
theorem dX5_findsLoop_135 : decode cX5_findsLoop 135 = .ok (.aload_n 0, 1) := by decide +kernel
theorem dX5_findsLoop_136 : decode cX5_findsLoop 136 = .ok (.iload_n 2, 1) := by decide +kernel
theorem dX5_findsLoop_137 : decode cX5_findsLoop 137 = .ok (.iconst 1, 1) := by decide +kernel
theorem dX5_findsLoop_138 : decode cX5_findsLoop 138 = .ok (.invokevirtual 110, 3) := by decide +kernel
theorem dX5_findsLoop_141 : decode cX5_findsLoop 141 = .ok (.dup2, 1) := by decide +kernel
theorem dX5_findsLoop_142 : decode cX5_findsLoop 142 = .ok (.iaload, 1) := by decide +kernel
theorem dX5_findsLoop_143 : decode cX5_findsLoop 143 = .ok (.iconst 1, 1) := by decide +kernel
theorem dX5_findsLoop_144 : decode cX5_findsLoop 144 = .ok (.iadd, 1) := by decide +kernel
theorem dX5_findsLoop_145 : decode cX5_findsLoop 145 = .ok (.iastore, 1) := by decide +kernel
theorem dX5_findsLoop_146 : decode cX5_findsLoop 146 = .ok (.iinc 2 1, 3) := by decide +kernel
theorem dX5_findsLoop_149 : decode cX5_findsLoop 149 = .ok (.goto (-72), 3) := by decide +kernel
theorem dX5_findsLoop_152 : decode cX5_findsLoop 152 = .ok (.iconst 0, 1) := by decide +kernel
theorem dX5_findsLoop_153 : decode cX5_findsLoop 153 = .ok (.istore_n 2, 1) := by decide +kernel
theorem dX5_findsLoop_154 : decode cX5_findsLoop 154 = .ok (.iload_n 2, 1) := by decide +kernel
theorem dX5_findsLoop_155 : decode cX5_findsLoop 155 = .ok (.bipush 10, 2) := by decide +kernel
theorem dX5_findsLoop_157 : decode cX5_findsLoop 157 = .ok (.if_icmp .ge 40, 3) := by decide +kernel
theorem dX5_findsLoop_160 : decode cX5_findsLoop 160 = .ok (.aload_n 0, 1) := by decide +kernel
theorem dX5_findsLoop_161 : decode cX5_findsLoop 161 = .ok (.getfield 51, 3) := by decide +kernel
theorem dX5_findsLoop_164 : decode cX5_findsLoop 164 = .ok (.iload_n 2, 1) := by decide +kernel
theorem dX5_findsLoop_165 : decode cX5_findsLoop 165 = .ok (.baload, 1) := by decide +kernel
theorem dX5_findsLoop_166 : decode cX5_findsLoop 166 = .ok (.ifCond .eq 25, 3) := by decide +kernel
theorem dX5_findsLoop_169 : decode cX5_findsLoop 169 = .ok (.aload_n 0, 1) := by decide +kernel
theorem dX5_findsLoop_170 : decode cX5_findsLoop 170 = .ok (.getfield 48, 3) := by decide +kernel
theorem dX5_findsLoop_173 : decode cX5_findsLoop 173 = .ok (.iload_n 2, 1) := by decide +kernel
theorem dX5_findsLoop_174 : decode cX5_findsLoop 174 = .ok (.iaload, 1) := by decide +kernel
theorem dX5_findsLoop_175 : decode cX5_findsLoop 175 = .ok (.iconst 1, 1) := by decide +kernel
theorem dX5_findsLoop_176 : decode cX5_findsLoop 176 = .ok (.if_icmp .le 6, 3) := by decide +kernel
theorem dX5_findsLoop_179 : decode cX5_findsLoop 179 = .ok (.goto 12, 3) := by decide +kernel
theorem dX5_findsLoop_182 : decode cX5_findsLoop 182 = .ok (.aload_n 0, 1) := by decide +kernel
theorem dX5_findsLoop_183 : decode cX5_findsLoop 183 = .ok (.getfield 51, 3) := by decide +kernel
theorem dX5_findsLoop_186 : decode cX5_findsLoop 186 = .ok (.iload_n 2, 1) := by decide +kernel
theorem dX5_findsLoop_187 : decode cX5_findsLoop 187 = .ok (.iconst 0, 1) := by decide +kernel
theorem dX5_findsLoop_188 : decode cX5_findsLoop 188 = .ok (.bastore, 1) := by decide +kernel
theorem dX5_findsLoop_189 : decode cX5_findsLoop 189 = .ok (.iconst 1, 1) := by decide +kernel
theorem dX5_findsLoop_190 : decode cX5_findsLoop 190 = .ok (.istore_n 1, 1) := by decide +kernel
theorem dX5_findsLoop_191 : decode cX5_findsLoop 191 = .ok (.iinc 2 1, 3) := by decide +kernel
theorem dX5_findsLoop_194 : decode cX5_findsLoop 194 = .ok (.goto (-40), 3) := by decide +kernel
theorem dX5_findsLoop_197 : decode cX5_findsLoop 197 = .ok (.goto (-149), 3) := by decide +kernel
theorem dX5_findsLoop_200 : decode cX5_findsLoop 200 = .ok (.aload_n 0, 1) := by decide +kernel
theorem dX5_findsLoop_201 : decode cX5_findsLoop 201 = .ok (.iconst 0, 1) := by decide +kernel
theorem dX5_findsLoop_202 : decode cX5_findsLoop 202 = .ok (.putfield 121, 3) := by decide +kernel
theorem dX5_findsLoop_205 : decode cX5_findsLoop 205 = .ok (.iconst (-1), 1) := by decide +kernel
theorem dX5_findsLoop_206 : decode cX5_findsLoop 206 = .ok (.istore_n 2, 1) := by decide +kernel
theorem dX5_findsLoop_207 : decode cX5_findsLoop 207 = .ok (.iconst 0, 1) := by decide +kernel
theorem dX5_findsLoop_208 : decode cX5_findsLoop 208 = .ok (.istore_n 3, 1) := by decide +kernel
theorem dX5_findsLoop_209 : decode cX5_findsLoop 209 = .ok (.iload_n 3, 1) := by decide +kernel
theorem dX5_findsLoop_210 : decode cX5_findsLoop 210 = .ok (.bipush 10, 2) := by decide +kernel
theorem dX5_findsLoop_212 : decode cX5_findsLoop 212 = .ok (.if_icmp .ge 39, 3) := by decide +kernel
theorem dX5_findsLoop_215 : decode cX5_findsLoop 215 = .ok (.aload_n 0, 1) := by decide +kernel
theorem dX5_findsLoop_216 : decode cX5_findsLoop 216 = .ok (.getfield 51, 3) := by decide +kernel
theorem dX5_findsLoop_219 : decode cX5_findsLoop 219 = .ok (.iload_n 3, 1) := by decide +kernel
theorem dX5_findsLoop_220 : decode cX5_findsLoop 220 = .ok (.baload, 1) := by decide +kernel
theorem dX5_findsLoop_221 : decode cX5_findsLoop 221 = .ok (.ifCond .eq 24, 3) := by decide +kernel
theorem dX5_findsLoop_224 : decode cX5_findsLoop 224 = .ok (.iload_n 2, 1) := by decide +kernel
theorem dX5_findsLoop_225 : decode cX5_findsLoop 225 = .ok (.ifCond .lt 18, 3) := by decide +kernel
theorem dX5_findsLoop_228 : decode cX5_findsLoop 228 = .ok (.aload_n 0, 1) := by decide +kernel
theorem dX5_findsLoop_229 : decode cX5_findsLoop 229 = .ok (.getfield 42, 3) := by decide +kernel
theorem dX5_findsLoop_232 : decode cX5_findsLoop 232 = .ok (.iload_n 3, 1) := by decide +kernel
theorem dX5_findsLoop_233 : decode cX5_findsLoop 233 = .ok (.iaload, 1) := by decide +kernel
theorem dX5_findsLoop_234 : decode cX5_findsLoop 234 = .ok (.aload_n 0, 1) := by decide +kernel
theorem dX5_findsLoop_235 : decode cX5_findsLoop 235 = .ok (.getfield 42, 3) := by decide +kernel
theorem dX5_findsLoop_238 : decode cX5_findsLoop 238 = .ok (.iload_n 2, 1) := by decide +kernel
theorem dX5_findsLoop_239 : decode cX5_findsLoop 239 = .ok (.iaload, 1) := by decide +kernel
theorem dX5_findsLoop_240 : decode cX5_findsLoop 240 = .ok (.if_icmp .ge 5, 3) := by decide +kernel
theorem dX5_findsLoop_243 : decode cX5_findsLoop 243 = .ok (.iload_n 3, 1) := by decide +kernel
theorem dX5_findsLoop_244 : decode cX5_findsLoop 244 = .ok (.istore_n 2, 1) := by decide +kernel
theorem dX5_findsLoop_245 : decode cX5_findsLoop 245 = .ok (.iinc 3 1, 3) := by decide +kernel
theorem dX5_findsLoop_248 : decode cX5_findsLoop 248 = .ok (.goto (-39), 3) := by decide +kernel
theorem dX5_findsLoop_251 : decode cX5_findsLoop 251 = .ok (.iload_n 2, 1) := by decide +kernel
theorem dX5_findsLoop_252 : decode cX5_findsLoop 252 = .ok (.ifCond .ge 4, 3) := by decide +kernel
theorem dX5_findsLoop_255 : decode cX5_findsLoop 255 = .ok (.return_, 1) := by decide +kernel
theorem dX5_findsLoop_256 : decode cX5_findsLoop 256 = .ok (.iconst (-1), 1) := by decide +kernel
theorem dX5_findsLoop_257 : decode cX5_findsLoop 257 = .ok (.istore_n 3, 1) := by decide +kernel
theorem dX5_findsLoop_258 : decode cX5_findsLoop 258 = .ok (.iload_n 2, 1) := by decide +kernel
theorem dX5_findsLoop_259 : decode cX5_findsLoop 259 = .ok (.istore 4, 2) := by decide +kernel
theorem dX5_findsLoop_261 : decode cX5_findsLoop 261 = .ok (.aload_n 0, 1) := by decide +kernel
theorem dX5_findsLoop_262 : decode cX5_findsLoop 262 = .ok (.getfield 121, 3) := by decide +kernel
theorem dX5_findsLoop_265 : decode cX5_findsLoop 265 = .ok (.ifCond .eq 9, 3) := by decide +kernel
theorem dX5_findsLoop_268 : decode cX5_findsLoop 268 = .ok (.iload 4, 2) := by decide +kernel
theorem dX5_findsLoop_270 : decode cX5_findsLoop 270 = .ok (.iload_n 2, 1) := by decide +kernel
theorem dX5_findsLoop_271 : decode cX5_findsLoop 271 = .ok (.if_icmp .eq 120, 3) := by decide +kernel
theorem dX5_findsLoop_274 : decode cX5_findsLoop 274 = .ok (.iconst (-1), 1) := by decide +kernel
theorem dX5_findsLoop_275 : decode cX5_findsLoop 275 = .ok (.istore 5, 2) := by decide +kernel
theorem dX5_findsLoop_277 : decode cX5_findsLoop 277 = .ok (.iconst (-1), 1) := by decide +kernel
theorem dX5_findsLoop_278 : decode cX5_findsLoop 278 = .ok (.istore 6, 2) := by decide +kernel
theorem dX5_findsLoop_280 : decode cX5_findsLoop 280 = .ok (.iconst 0, 1) := by decide +kernel
theorem dX5_findsLoop_281 : decode cX5_findsLoop 281 = .ok (.istore 7, 2) := by decide +kernel
theorem dX5_findsLoop_283 : decode cX5_findsLoop 283 = .ok (.iload 7, 2) := by decide +kernel
theorem dX5_findsLoop_285 : decode cX5_findsLoop 285 = .ok (.aload_n 0, 1) := by decide +kernel
theorem dX5_findsLoop_286 : decode cX5_findsLoop 286 = .ok (.invokevirtual 106, 3) := by decide +kernel
theorem dX5_findsLoop_289 : decode cX5_findsLoop 289 = .ok (.if_icmp .ge 63, 3) := by decide +kernel
theorem dX5_findsLoop_292 : decode cX5_findsLoop 292 = .ok (.aload_n 0, 1) := by decide +kernel
theorem dX5_findsLoop_293 : decode cX5_findsLoop 293 = .ok (.iload 7, 2) := by decide +kernel
theorem dX5_findsLoop_295 : decode cX5_findsLoop 295 = .ok (.iload 4, 2) := by decide +kernel
theorem dX5_findsLoop_297 : decode cX5_findsLoop 297 = .ok (.invokevirtual 114, 3) := by decide +kernel
theorem dX5_findsLoop_300 : decode cX5_findsLoop 300 = .ok (.istore 8, 2) := by decide +kernel
theorem dX5_findsLoop_302 : decode cX5_findsLoop 302 = .ok (.iload 8, 2) := by decide +kernel
theorem dX5_findsLoop_304 : decode cX5_findsLoop 304 = .ok (.ifCond .lt 42, 3) := by decide +kernel
theorem dX5_findsLoop_307 : decode cX5_findsLoop 307 = .ok (.aload_n 0, 1) := by decide +kernel
theorem dX5_findsLoop_308 : decode cX5_findsLoop 308 = .ok (.getfield 51, 3) := by decide +kernel
theorem dX5_findsLoop_311 : decode cX5_findsLoop 311 = .ok (.iload 8, 2) := by decide +kernel
theorem dX5_findsLoop_313 : decode cX5_findsLoop 313 = .ok (.baload, 1) := by decide +kernel
theorem dX5_findsLoop_314 : decode cX5_findsLoop 314 = .ok (.ifCond .eq 32, 3) := by decide +kernel
theorem dX5_findsLoop_317 : decode cX5_findsLoop 317 = .ok (.iload 7, 2) := by decide +kernel
theorem dX5_findsLoop_319 : decode cX5_findsLoop 319 = .ok (.iload_n 3, 1) := by decide +kernel
theorem dX5_findsLoop_320 : decode cX5_findsLoop 320 = .ok (.if_icmp .eq 26, 3) := by decide +kernel
theorem dX5_findsLoop_323 : decode cX5_findsLoop 323 = .ok (.iload 5, 2) := by decide +kernel
theorem dX5_findsLoop_325 : decode cX5_findsLoop 325 = .ok (.ifCond .lt 13, 3) := by decide +kernel
theorem dX5_findsLoop_328 : decode cX5_findsLoop 328 = .ok (.iload 8, 2) := by decide +kernel
theorem dX5_findsLoop_330 : decode cX5_findsLoop 330 = .ok (.iload 5, 2) := by decide +kernel
theorem dX5_findsLoop_332 : decode cX5_findsLoop 332 = .ok (.if_icmp .le 6, 3) := by decide +kernel
theorem dX5_findsLoop_335 : decode cX5_findsLoop 335 = .ok (.goto 11, 3) := by decide +kernel
theorem dX5_findsLoop_338 : decode cX5_findsLoop 338 = .ok (.iload 8, 2) := by decide +kernel
theorem dX5_findsLoop_340 : decode cX5_findsLoop 340 = .ok (.istore 5, 2) := by decide +kernel
theorem dX5_findsLoop_342 : decode cX5_findsLoop 342 = .ok (.iload 7, 2) := by decide +kernel
theorem dX5_findsLoop_344 : decode cX5_findsLoop 344 = .ok (.istore 6, 2) := by decide +kernel
theorem dX5_findsLoop_346 : decode cX5_findsLoop 346 = .ok (.iinc 7 1, 3) := by decide +kernel
theorem dX5_findsLoop_349 : decode cX5_findsLoop 349 = .ok (.goto (-66), 3) := by decide +kernel
theorem dX5_findsLoop_352 : decode cX5_findsLoop 352 = .ok (.aload_n 0, 1) := by decide +kernel
theorem dX5_findsLoop_353 : decode cX5_findsLoop 353 = .ok (.getfield 55, 3) := by decide +kernel
theorem dX5_findsLoop_356 : decode cX5_findsLoop 356 = .ok (.aload_n 0, 1) := by decide +kernel
theorem dX5_findsLoop_357 : decode cX5_findsLoop 357 = .ok (.getfield 121, 3) := by decide +kernel
theorem dX5_findsLoop_360 : decode cX5_findsLoop 360 = .ok (.iload 4, 2) := by decide +kernel
theorem dX5_findsLoop_362 : decode cX5_findsLoop 362 = .ok (.iastore, 1) := by decide +kernel
theorem dX5_findsLoop_363 : decode cX5_findsLoop 363 = .ok (.aload_n 0, 1) := by decide +kernel
theorem dX5_findsLoop_364 : decode cX5_findsLoop 364 = .ok (.getfield 58, 3) := by decide +kernel
theorem dX5_findsLoop_367 : decode cX5_findsLoop 367 = .ok (.aload_n 0, 1) := by decide +kernel
theorem dX5_findsLoop_368 : decode cX5_findsLoop 368 = .ok (.dup, 1) := by decide +kernel
theorem dX5_findsLoop_369 : decode cX5_findsLoop 369 = .ok (.getfield 121, 3) := by decide +kernel
theorem dX5_findsLoop_372 : decode cX5_findsLoop 372 = .ok (.dup_x1, 1) := by decide +kernel
theorem dX5_findsLoop_373 : decode cX5_findsLoop 373 = .ok (.iconst 1, 1) := by decide +kernel
theorem dX5_findsLoop_374 : decode cX5_findsLoop 374 = .ok (.iadd, 1) := by decide +kernel
theorem dX5_findsLoop_375 : decode cX5_findsLoop 375 = .ok (.putfield 121, 3) := by decide +kernel
theorem dX5_findsLoop_378 : decode cX5_findsLoop 378 = .ok (.iload 6, 2) := by decide +kernel
theorem dX5_findsLoop_380 : decode cX5_findsLoop 380 = .ok (.iastore, 1) := by decide +kernel
theorem dX5_findsLoop_381 : decode cX5_findsLoop 381 = .ok (.iload 6, 2) := by decide +kernel
theorem dX5_findsLoop_383 : decode cX5_findsLoop 383 = .ok (.istore_n 3, 1) := by decide +kernel
theorem dX5_findsLoop_384 : decode cX5_findsLoop 384 = .ok (.iload 5, 2) := by decide +kernel
theorem dX5_findsLoop_386 : decode cX5_findsLoop 386 = .ok (.istore 4, 2) := by decide +kernel
theorem dX5_findsLoop_388 : decode cX5_findsLoop 388 = .ok (.goto (-127), 3) := by decide +kernel
theorem dX5_findsLoop_391 : decode cX5_findsLoop 391 = .ok (.return_, 1) := by decide +kernel
theorem dX5_isLoopPipe_0 : decode cX5_isLoopPipe 0 = .ok (.iconst 0, 1) := by decide +kernel
theorem dX5_isLoopPipe_1 : decode cX5_isLoopPipe 1 = .ok (.istore_n 2, 1) := by decide +kernel
theorem dX5_isLoopPipe_2 : decode cX5_isLoopPipe 2 = .ok (.iload_n 2, 1) := by decide +kernel
theorem dX5_isLoopPipe_3 : decode cX5_isLoopPipe 3 = .ok (.aload_n 0, 1) := by decide +kernel
theorem dX5_isLoopPipe_4 : decode cX5_isLoopPipe 4 = .ok (.getfield 121, 3) := by decide +kernel
theorem dX5_isLoopPipe_7 : decode cX5_isLoopPipe 7 = .ok (.if_icmp .ge 21, 3) := by decide +kernel
theorem dX5_isLoopPipe_10 : decode cX5_isLoopPipe 10 = .ok (.aload_n 0, 1) := by decide +kernel
theorem dX5_isLoopPipe_11 : decode cX5_isLoopPipe 11 = .ok (.getfield 58, 3) := by decide +kernel
theorem dX5_isLoopPipe_14 : decode cX5_isLoopPipe 14 = .ok (.iload_n 2, 1) := by decide +kernel
theorem dX5_isLoopPipe_15 : decode cX5_isLoopPipe 15 = .ok (.iaload, 1) := by decide +kernel
theorem dX5_isLoopPipe_16 : decode cX5_isLoopPipe 16 = .ok (.iload_n 1, 1) := by decide +kernel
theorem dX5_isLoopPipe_17 : decode cX5_isLoopPipe 17 = .ok (.if_icmp .ne 5, 3) := by decide +kernel
theorem dX5_isLoopPipe_20 : decode cX5_isLoopPipe 20 = .ok (.iconst 1, 1) := by decide +kernel
theorem dX5_isLoopPipe_21 : decode cX5_isLoopPipe 21 = .ok (.ireturn, 1) := by decide +kernel
theorem dX5_isLoopPipe_22 : decode cX5_isLoopPipe 22 = .ok (.iinc 2 1, 3) := by decide +kernel
theorem dX5_isLoopPipe_25 : decode cX5_isLoopPipe 25 = .ok (.goto (-23), 3) := by decide +kernel
theorem dX5_isLoopPipe_28 : decode cX5_isLoopPipe 28 = .ok (.iconst 0, 1) := by decide +kernel
theorem dX5_isLoopPipe_29 : decode cX5_isLoopPipe 29 = .ok (.ireturn, 1) := by decide +kernel
theorem dX5_hasStation_0 : decode cX5_hasStation 0 = .ok (.iload_n 1, 1) := by decide +kernel
theorem dX5_hasStation_1 : decode cX5_hasStation 1 = .ok (.iconst 1, 1) := by decide +kernel
theorem dX5_hasStation_2 : decode cX5_hasStation 2 = .ok (.bipush 9, 2) := by decide +kernel
theorem dX5_hasStation_4 : decode cX5_hasStation 4 = .ok (.invokestatic 96, 3) := by decide +kernel
theorem dX5_hasStation_7 : decode cX5_hasStation 7 = .ok (.ifCond .eq 23, 3) := by decide +kernel
theorem dX5_hasStation_10 : decode cX5_hasStation 10 = .ok (.aload_n 0, 1) := by decide +kernel
theorem dX5_hasStation_11 : decode cX5_hasStation 11 = .ok (.getfield 9, 3) := by decide +kernel
theorem dX5_hasStation_14 : decode cX5_hasStation 14 = .ok (.bipush 48, 2) := by decide +kernel
theorem dX5_hasStation_16 : decode cX5_hasStation 16 = .ok (.bipush 6, 2) := by decide +kernel
theorem dX5_hasStation_18 : decode cX5_hasStation 18 = .ok (.iload_n 1, 1) := by decide +kernel
theorem dX5_hasStation_19 : decode cX5_hasStation 19 = .ok (.imul, 1) := by decide +kernel
theorem dX5_hasStation_20 : decode cX5_hasStation 20 = .ok (.iadd, 1) := by decide +kernel
theorem dX5_hasStation_21 : decode cX5_hasStation 21 = .ok (.iaload, 1) := by decide +kernel
theorem dX5_hasStation_22 : decode cX5_hasStation 22 = .ok (.iconst 1, 1) := by decide +kernel
theorem dX5_hasStation_23 : decode cX5_hasStation 23 = .ok (.if_icmp .ne 7, 3) := by decide +kernel
theorem dX5_hasStation_26 : decode cX5_hasStation 26 = .ok (.iconst 1, 1) := by decide +kernel
theorem dX5_hasStation_27 : decode cX5_hasStation 27 = .ok (.goto 4, 3) := by decide +kernel
theorem dX5_hasStation_30 : decode cX5_hasStation 30 = .ok (.iconst 0, 1) := by decide +kernel
theorem dX5_hasStation_31 : decode cX5_hasStation 31 = .ok (.ireturn, 1) := by decide +kernel
theorem dX5_wants_0 : decode cX5_wants 0 = .ok (.aload_n 0, 1) := by decide +kernel
theorem dX5_wants_1 : decode cX5_wants 1 = .ok (.getfield 9, 3) := by decide +kernel
theorem dX5_wants_4 : decode cX5_wants 4 = .ok (.bipush 48, 2) := by decide +kernel
theorem dX5_wants_6 : decode cX5_wants 6 = .ok (.bipush 6, 2) := by decide +kernel
theorem dX5_wants_8 : decode cX5_wants 8 = .ok (.iload_n 1, 1) := by decide +kernel
theorem dX5_wants_9 : decode cX5_wants 9 = .ok (.imul, 1) := by decide +kernel
theorem dX5_wants_10 : decode cX5_wants 10 = .ok (.iadd, 1) := by decide +kernel
theorem dX5_wants_11 : decode cX5_wants 11 = .ok (.iconst 1, 1) := by decide +kernel
theorem dX5_wants_12 : decode cX5_wants 12 = .ok (.iadd, 1) := by decide +kernel
theorem dX5_wants_13 : decode cX5_wants 13 = .ok (.iaload, 1) := by decide +kernel
theorem dX5_wants_14 : decode cX5_wants 14 = .ok (.iconst 0, 1) := by decide +kernel
theorem dX5_wants_15 : decode cX5_wants 15 = .ok (.sipush 200, 3) := by decide +kernel
theorem dX5_wants_18 : decode cX5_wants 18 = .ok (.aload_n 0, 1) := by decide +kernel
theorem dX5_wants_19 : decode cX5_wants 19 = .ok (.getfield 9, 3) := by decide +kernel
theorem dX5_wants_22 : decode cX5_wants 22 = .ok (.iconst 2, 1) := by decide +kernel
theorem dX5_wants_23 : decode cX5_wants 23 = .ok (.iaload, 1) := by decide +kernel
theorem dX5_wants_24 : decode cX5_wants 24 = .ok (.isub, 1) := by decide +kernel
theorem dX5_wants_25 : decode cX5_wants 25 = .ok (.invokestatic 124, 3) := by decide +kernel
theorem dX5_wants_28 : decode cX5_wants 28 = .ok (.imul, 1) := by decide +kernel
theorem dX5_wants_29 : decode cX5_wants 29 = .ok (.ireturn, 1) := by decide +kernel
theorem dX5_drawn_0 : decode cX5_drawn 0 = .ok (.aload_n 0, 1) := by decide +kernel
theorem dX5_drawn_1 : decode cX5_drawn 1 = .ok (.getfield 9, 3) := by decide +kernel
theorem dX5_drawn_4 : decode cX5_drawn 4 = .ok (.bipush 48, 2) := by decide +kernel
theorem dX5_drawn_6 : decode cX5_drawn 6 = .ok (.bipush 6, 2) := by decide +kernel
theorem dX5_drawn_8 : decode cX5_drawn 8 = .ok (.iload_n 1, 1) := by decide +kernel
theorem dX5_drawn_9 : decode cX5_drawn 9 = .ok (.imul, 1) := by decide +kernel
theorem dX5_drawn_10 : decode cX5_drawn 10 = .ok (.iadd, 1) := by decide +kernel
theorem dX5_drawn_11 : decode cX5_drawn 11 = .ok (.iconst 2, 1) := by decide +kernel
theorem dX5_drawn_12 : decode cX5_drawn 12 = .ok (.iadd, 1) := by decide +kernel
theorem dX5_drawn_13 : decode cX5_drawn 13 = .ok (.iaload, 1) := by decide +kernel
theorem dX5_drawn_14 : decode cX5_drawn 14 = .ok (.istore_n 3, 1) := by decide +kernel
theorem dX5_drawn_15 : decode cX5_drawn 15 = .ok (.aload_n 0, 1) := by decide +kernel
theorem dX5_drawn_16 : decode cX5_drawn 16 = .ok (.getfield 42, 3) := by decide +kernel
theorem dX5_drawn_19 : decode cX5_drawn 19 = .ok (.iload_n 1, 1) := by decide +kernel
theorem dX5_drawn_20 : decode cX5_drawn 20 = .ok (.iaload, 1) := by decide +kernel
theorem dX5_drawn_21 : decode cX5_drawn 21 = .ok (.ifCond .lt 11, 3) := by decide +kernel
theorem dX5_drawn_24 : decode cX5_drawn 24 = .ok (.iload_n 2, 1) := by decide +kernel
theorem dX5_drawn_25 : decode cX5_drawn 25 = .ok (.iload_n 3, 1) := by decide +kernel
theorem dX5_drawn_26 : decode cX5_drawn 26 = .ok (.bipush 50, 2) := by decide +kernel
theorem dX5_drawn_28 : decode cX5_drawn 28 = .ok (.iadd, 1) := by decide +kernel
theorem dX5_drawn_29 : decode cX5_drawn 29 = .ok (.if_icmp .ge 5, 3) := by decide +kernel
theorem dX5_drawn_32 : decode cX5_drawn 32 = .ok (.iconst 0, 1) := by decide +kernel
theorem dX5_drawn_33 : decode cX5_drawn 33 = .ok (.ireturn, 1) := by decide +kernel
theorem dX5_drawn_34 : decode cX5_drawn 34 = .ok (.iload_n 2, 1) := by decide +kernel
theorem dX5_drawn_35 : decode cX5_drawn 35 = .ok (.iload_n 3, 1) := by decide +kernel
theorem dX5_drawn_36 : decode cX5_drawn 36 = .ok (.isub, 1) := by decide +kernel
theorem dX5_drawn_37 : decode cX5_drawn 37 = .ok (.istore 4, 2) := by decide +kernel
theorem dX5_drawn_39 : decode cX5_drawn 39 = .ok (.aload_n 0, 1) := by decide +kernel
theorem dX5_drawn_40 : decode cX5_drawn 40 = .ok (.getfield 9, 3) := by decide +kernel
theorem dX5_drawn_43 : decode cX5_drawn 43 = .ok (.bipush 48, 2) := by decide +kernel
theorem dX5_drawn_45 : decode cX5_drawn 45 = .ok (.bipush 6, 2) := by decide +kernel
theorem dX5_drawn_47 : decode cX5_drawn 47 = .ok (.iload_n 1, 1) := by decide +kernel
theorem dX5_drawn_48 : decode cX5_drawn 48 = .ok (.imul, 1) := by decide +kernel
theorem dX5_drawn_49 : decode cX5_drawn 49 = .ok (.iadd, 1) := by decide +kernel
theorem dX5_drawn_50 : decode cX5_drawn 50 = .ok (.iconst 3, 1) := by decide +kernel
theorem dX5_drawn_51 : decode cX5_drawn 51 = .ok (.iadd, 1) := by decide +kernel
theorem dX5_drawn_52 : decode cX5_drawn 52 = .ok (.iaload, 1) := by decide +kernel
theorem dX5_drawn_53 : decode cX5_drawn 53 = .ok (.aload_n 0, 1) := by decide +kernel
theorem dX5_drawn_54 : decode cX5_drawn 54 = .ok (.iload_n 1, 1) := by decide +kernel
theorem dX5_drawn_55 : decode cX5_drawn 55 = .ok (.invokevirtual 129, 3) := by decide +kernel
theorem dX5_drawn_58 : decode cX5_drawn 58 = .ok (.iload 4, 2) := by decide +kernel
theorem dX5_drawn_60 : decode cX5_drawn 60 = .ok (.iadd, 1) := by decide +kernel
theorem dX5_drawn_61 : decode cX5_drawn 61 = .ok (.iconst 1, 1) := by decide +kernel
theorem dX5_drawn_62 : decode cX5_drawn 62 = .ok (.isub, 1) := by decide +kernel
theorem dX5_drawn_63 : decode cX5_drawn 63 = .ok (.iload 4, 2) := by decide +kernel
theorem dX5_drawn_65 : decode cX5_drawn 65 = .ok (.idiv, 1) := by decide +kernel
theorem dX5_drawn_66 : decode cX5_drawn 66 = .ok (.invokestatic 132, 3) := by decide +kernel
theorem dX5_drawn_69 : decode cX5_drawn 69 = .ok (.ireturn, 1) := by decide +kernel
theorem dX5_out_0 : decode cX5_out 0 = .ok (.aload_n 0, 1) := by decide +kernel
theorem dX5_out_1 : decode cX5_out 1 = .ok (.getfield 61, 3) := by decide +kernel
theorem dX5_out_4 : decode cX5_out 4 = .ok (.iload_n 1, 1) := by decide +kernel
theorem dX5_out_5 : decode cX5_out 5 = .ok (.iaload, 1) := by decide +kernel
theorem dX5_out_6 : decode cX5_out 6 = .ok (.i2l, 1) := by decide +kernel
theorem dX5_out_7 : decode cX5_out 7 = .ok (.lstore_n 2, 1) := by decide +kernel
theorem dX5_out_8 : decode cX5_out 8 = .ok (.iconst 0, 1) := by decide +kernel
theorem dX5_out_9 : decode cX5_out 9 = .ok (.istore 4, 2) := by decide +kernel
theorem dX5_out_11 : decode cX5_out 11 = .ok (.iload 4, 2) := by decide +kernel
theorem dX5_out_13 : decode cX5_out 13 = .ok (.aload_n 0, 1) := by decide +kernel
theorem dX5_out_14 : decode cX5_out 14 = .ok (.invokevirtual 106, 3) := by decide +kernel
theorem dX5_out_17 : decode cX5_out 17 = .ok (.if_icmp .ge 58, 3) := by decide +kernel
theorem dX5_out_20 : decode cX5_out 20 = .ok (.aload_n 0, 1) := by decide +kernel
theorem dX5_out_21 : decode cX5_out 21 = .ok (.iload 4, 2) := by decide +kernel
theorem dX5_out_23 : decode cX5_out 23 = .ok (.iload_n 1, 1) := by decide +kernel
theorem dX5_out_24 : decode cX5_out 24 = .ok (.invokevirtual 114, 3) := by decide +kernel
theorem dX5_out_27 : decode cX5_out 27 = .ok (.istore 5, 2) := by decide +kernel
theorem dX5_out_29 : decode cX5_out 29 = .ok (.iload 5, 2) := by decide +kernel
theorem dX5_out_31 : decode cX5_out 31 = .ok (.ifCond .lt 38, 3) := by decide +kernel
theorem dX5_out_34 : decode cX5_out 34 = .ok (.aload_n 0, 1) := by decide +kernel
theorem dX5_out_35 : decode cX5_out 35 = .ok (.iload 4, 2) := by decide +kernel
theorem dX5_out_37 : decode cX5_out 37 = .ok (.invokevirtual 135, 3) := by decide +kernel
theorem dX5_out_40 : decode cX5_out 40 = .ok (.ifCond .ne 29, 3) := by decide +kernel
theorem dX5_out_43 : decode cX5_out 43 = .ok (.aload_n 0, 1) := by decide +kernel
theorem dX5_out_44 : decode cX5_out 44 = .ok (.getfield 42, 3) := by decide +kernel
theorem dX5_out_47 : decode cX5_out 47 = .ok (.iload 5, 2) := by decide +kernel
theorem dX5_out_49 : decode cX5_out 49 = .ok (.iaload, 1) := by decide +kernel
theorem dX5_out_50 : decode cX5_out 50 = .ok (.aload_n 0, 1) := by decide +kernel
theorem dX5_out_51 : decode cX5_out 51 = .ok (.getfield 42, 3) := by decide +kernel
theorem dX5_out_54 : decode cX5_out 54 = .ok (.iload_n 1, 1) := by decide +kernel
theorem dX5_out_55 : decode cX5_out 55 = .ok (.iaload, 1) := by decide +kernel
theorem dX5_out_56 : decode cX5_out 56 = .ok (.if_icmp .le 13, 3) := by decide +kernel
theorem dX5_out_59 : decode cX5_out 59 = .ok (.lload_n 2, 1) := by decide +kernel
theorem dX5_out_60 : decode cX5_out 60 = .ok (.aload_n 0, 1) := by decide +kernel
theorem dX5_out_61 : decode cX5_out 61 = .ok (.getfield 67, 3) := by decide +kernel
theorem dX5_out_64 : decode cX5_out 64 = .ok (.iload 5, 2) := by decide +kernel
theorem dX5_out_66 : decode cX5_out 66 = .ok (.laload, 1) := by decide +kernel
theorem dX5_out_67 : decode cX5_out 67 = .ok (.ladd, 1) := by decide +kernel
theorem dX5_out_68 : decode cX5_out 68 = .ok (.lstore_n 2, 1) := by decide +kernel
theorem dX5_out_69 : decode cX5_out 69 = .ok (.iinc 4 1, 3) := by decide +kernel
theorem dX5_out_72 : decode cX5_out 72 = .ok (.goto (-61), 3) := by decide +kernel
theorem dX5_out_75 : decode cX5_out 75 = .ok (.lload_n 2, 1) := by decide +kernel
theorem dX5_out_76 : decode cX5_out 76 = .ok (.lreturn, 1) := by decide +kernel
theorem dX5_around_0 : decode cX5_around 0 = .ok (.lconst 0, 1) := by decide +kernel
theorem dX5_around_1 : decode cX5_around 1 = .ok (.lstore_n 3, 1) := by decide +kernel
theorem dX5_around_2 : decode cX5_around 2 = .ok (.lload_n 1, 1) := by decide +kernel
theorem dX5_around_3 : decode cX5_around 3 = .ok (.lstore 5, 2) := by decide +kernel
theorem dX5_around_5 : decode cX5_around 5 = .ok (.iconst 0, 1) := by decide +kernel
theorem dX5_around_6 : decode cX5_around 6 = .ok (.istore 7, 2) := by decide +kernel
theorem dX5_around_8 : decode cX5_around 8 = .ok (.iload 7, 2) := by decide +kernel
theorem dX5_around_10 : decode cX5_around 10 = .ok (.aload_n 0, 1) := by decide +kernel
theorem dX5_around_11 : decode cX5_around 11 = .ok (.getfield 121, 3) := by decide +kernel
theorem dX5_around_14 : decode cX5_around 14 = .ok (.if_icmp .ge 46, 3) := by decide +kernel
theorem dX5_around_17 : decode cX5_around 17 = .ok (.iload 7, 2) := by decide +kernel
theorem dX5_around_19 : decode cX5_around 19 = .ok (.ifCond .le 19, 3) := by decide +kernel
theorem dX5_around_22 : decode cX5_around 22 = .ok (.lload 5, 2) := by decide +kernel
theorem dX5_around_24 : decode cX5_around 24 = .ok (.aload_n 0, 1) := by decide +kernel
theorem dX5_around_25 : decode cX5_around 25 = .ok (.aload_n 0, 1) := by decide +kernel
theorem dX5_around_26 : decode cX5_around 26 = .ok (.getfield 55, 3) := by decide +kernel
theorem dX5_around_29 : decode cX5_around 29 = .ok (.iload 7, 2) := by decide +kernel
theorem dX5_around_31 : decode cX5_around 31 = .ok (.iaload, 1) := by decide +kernel
theorem dX5_around_32 : decode cX5_around 32 = .ok (.invokevirtual 139, 3) := by decide +kernel
theorem dX5_around_35 : decode cX5_around 35 = .ok (.lsub, 1) := by decide +kernel
theorem dX5_around_36 : decode cX5_around 36 = .ok (.lstore 5, 2) := by decide +kernel
theorem dX5_around_38 : decode cX5_around 38 = .ok (.lload_n 3, 1) := by decide +kernel
theorem dX5_around_39 : decode cX5_around 39 = .ok (.aload_n 0, 1) := by decide +kernel
theorem dX5_around_40 : decode cX5_around 40 = .ok (.aload_n 0, 1) := by decide +kernel
theorem dX5_around_41 : decode cX5_around 41 = .ok (.getfield 58, 3) := by decide +kernel
theorem dX5_around_44 : decode cX5_around 44 = .ok (.iload 7, 2) := by decide +kernel
theorem dX5_around_46 : decode cX5_around 46 = .ok (.iaload, 1) := by decide +kernel
theorem dX5_around_47 : decode cX5_around 47 = .ok (.lload 5, 2) := by decide +kernel
theorem dX5_around_49 : decode cX5_around 49 = .ok (.invokevirtual 143, 3) := by decide +kernel
theorem dX5_around_52 : decode cX5_around 52 = .ok (.ladd, 1) := by decide +kernel
theorem dX5_around_53 : decode cX5_around 53 = .ok (.lstore_n 3, 1) := by decide +kernel
theorem dX5_around_54 : decode cX5_around 54 = .ok (.iinc 7 1, 3) := by decide +kernel
theorem dX5_around_57 : decode cX5_around 57 = .ok (.goto (-49), 3) := by decide +kernel
theorem dX5_around_60 : decode cX5_around 60 = .ok (.lload_n 3, 1) := by decide +kernel
theorem dX5_around_61 : decode cX5_around 61 = .ok (.lreturn, 1) := by decide +kernel
theorem dX5_drop_0 : decode cX5_drop 0 = .ok (.aload_n 0, 1) := by decide +kernel
theorem dX5_drop_1 : decode cX5_drop 1 = .ok (.iload_n 1, 1) := by decide +kernel
theorem dX5_drop_2 : decode cX5_drop 2 = .ok (.iconst 2, 1) := by decide +kernel
theorem dX5_drop_3 : decode cX5_drop 3 = .ok (.invokevirtual 110, 3) := by decide +kernel
theorem dX5_drop_6 : decode cX5_drop 6 = .ok (.i2l, 1) := by decide +kernel
theorem dX5_drop_7 : decode cX5_drop 7 = .ok (.aload_n 0, 1) := by decide +kernel
theorem dX5_drop_8 : decode cX5_drop 8 = .ok (.iload_n 1, 1) := by decide +kernel
theorem dX5_drop_9 : decode cX5_drop 9 = .ok (.iconst 3, 1) := by decide +kernel
theorem dX5_drop_10 : decode cX5_drop 10 = .ok (.invokevirtual 110, 3) := by decide +kernel
theorem dX5_drop_13 : decode cX5_drop 13 = .ok (.i2l, 1) := by decide +kernel
theorem dX5_drop_14 : decode cX5_drop 14 = .ok (.lmul, 1) := by decide +kernel
theorem dX5_drop_15 : decode cX5_drop 15 = .ok (.lload_n 2, 1) := by decide +kernel
theorem dX5_drop_16 : decode cX5_drop 16 = .ok (.lmul, 1) := by decide +kernel
theorem dX5_drop_17 : decode cX5_drop 17 = .ok (.lload_n 2, 1) := by decide +kernel
theorem dX5_drop_18 : decode cX5_drop 18 = .ok (.invokestatic 147, 3) := by decide +kernel
theorem dX5_drop_21 : decode cX5_drop 21 = .ok (.lmul, 1) := by decide +kernel
theorem dX5_drop_22 : decode cX5_drop 22 = .ok (.lreturn, 1) := by decide +kernel
theorem dX5_carries_0 : decode cX5_carries 0 = .ok (.aload_n 0, 1) := by decide +kernel
theorem dX5_carries_1 : decode cX5_carries 1 = .ok (.getfield 70, 3) := by decide +kernel
theorem dX5_carries_4 : decode cX5_carries 4 = .ok (.iload_n 1, 1) := by decide +kernel
theorem dX5_carries_5 : decode cX5_carries 5 = .ok (.aload_n 0, 1) := by decide +kernel
theorem dX5_carries_6 : decode cX5_carries 6 = .ok (.iload_n 1, 1) := by decide +kernel
theorem dX5_carries_7 : decode cX5_carries 7 = .ok (.iconst 0, 1) := by decide +kernel
theorem dX5_carries_8 : decode cX5_carries 8 = .ok (.invokevirtual 110, 3) := by decide +kernel
theorem dX5_carries_11 : decode cX5_carries 11 = .ok (.iload_n 2, 1) := by decide +kernel
theorem dX5_carries_12 : decode cX5_carries 12 = .ok (.if_icmp .ne 7, 3) := by decide +kernel
theorem dX5_carries_15 : decode cX5_carries 15 = .ok (.lload_n 3, 1) := by decide +kernel
theorem dX5_carries_16 : decode cX5_carries 16 = .ok (.goto 5, 3) := by decide +kernel
theorem dX5_carries_19 : decode cX5_carries 19 = .ok (.lload_n 3, 1) := by decide +kernel
theorem dX5_carries_20 : decode cX5_carries 20 = .ok (.lneg, 1) := by decide +kernel
theorem dX5_carries_21 : decode cX5_carries 21 = .ok (.l2i, 1) := by decide +kernel
theorem dX5_carries_22 : decode cX5_carries 22 = .ok (.iastore, 1) := by decide +kernel
theorem dX5_carries_23 : decode cX5_carries 23 = .ok (.return_, 1) := by decide +kernel
theorem dX5_flows_0 : decode cX5_flows 0 = .ok (.iconst 0, 1) := by decide +kernel
theorem dX5_flows_1 : decode cX5_flows 1 = .ok (.istore_n 1, 1) := by decide +kernel
theorem dX5_flows_2 : decode cX5_flows 2 = .ok (.iload_n 1, 1) := by decide +kernel
theorem dX5_flows_3 : decode cX5_flows 3 = .ok (.aload_n 0, 1) := by decide +kernel
theorem dX5_flows_4 : decode cX5_flows 4 = .ok (.invokevirtual 106, 3) := by decide +kernel
theorem dX5_flows_7 : decode cX5_flows 7 = .ok (.if_icmp .ge 16, 3) := by decide +kernel
theorem dX5_flows_10 : decode cX5_flows 10 = .ok (.aload_n 0, 1) := by decide +kernel
theorem dX5_flows_11 : decode cX5_flows 11 = .ok (.getfield 70, 3) := by decide +kernel
theorem dX5_flows_14 : decode cX5_flows 14 = .ok (.iload_n 1, 1) := by decide +kernel
theorem dX5_flows_15 : decode cX5_flows 15 = .ok (.iconst 0, 1) := by decide +kernel
theorem dX5_flows_16 : decode cX5_flows 16 = .ok (.iastore, 1) := by decide +kernel
theorem dX5_flows_17 : decode cX5_flows 17 = .ok (.iinc 1 1, 3) := by decide +kernel
theorem dX5_flows_20 : decode cX5_flows 20 = .ok (.goto (-18), 3) := by decide +kernel
theorem dX5_flows_23 : decode cX5_flows 23 = .ok (.aload_n 0, 1) := by decide +kernel
theorem dX5_flows_24 : decode cX5_flows 24 = .ok (.lconst 0, 1) := by decide +kernel
theorem dX5_flows_25 : decode cX5_flows 25 = .ok (.putfield 151, 3) := by decide +kernel
theorem dX5_flows_28 : decode cX5_flows 28 = .ok (.bipush 10, 2) := by decide +kernel
theorem dX5_flows_30 : decode cX5_flows 30 = .ok (.istore_n 1, 1) := by decide +kernel
theorem dX5_flows_31 : decode cX5_flows 31 = .ok (.iload_n 1, 1) := by decide +kernel
theorem dX5_flows_32 : decode cX5_flows 32 = .ok (.ifCond .lt 102, 3) := by decide +kernel
theorem dX5_flows_35 : decode cX5_flows 35 = .ok (.iconst 0, 1) := by decide +kernel
theorem dX5_flows_36 : decode cX5_flows 36 = .ok (.istore_n 2, 1) := by decide +kernel
theorem dX5_flows_37 : decode cX5_flows 37 = .ok (.iload_n 2, 1) := by decide +kernel
theorem dX5_flows_38 : decode cX5_flows 38 = .ok (.bipush 10, 2) := by decide +kernel
theorem dX5_flows_40 : decode cX5_flows 40 = .ok (.if_icmp .ge 88, 3) := by decide +kernel
theorem dX5_flows_43 : decode cX5_flows 43 = .ok (.aload_n 0, 1) := by decide +kernel
theorem dX5_flows_44 : decode cX5_flows 44 = .ok (.getfield 42, 3) := by decide +kernel
theorem dX5_flows_47 : decode cX5_flows 47 = .ok (.iload_n 2, 1) := by decide +kernel
theorem dX5_flows_48 : decode cX5_flows 48 = .ok (.iaload, 1) := by decide +kernel
theorem dX5_flows_49 : decode cX5_flows 49 = .ok (.iload_n 1, 1) := by decide +kernel
theorem dX5_flows_50 : decode cX5_flows 50 = .ok (.if_icmp .eq 6, 3) := by decide +kernel
theorem dX5_flows_53 : decode cX5_flows 53 = .ok (.goto 69, 3) := by decide +kernel
theorem dX5_flows_56 : decode cX5_flows 56 = .ok (.aload_n 0, 1) := by decide +kernel
theorem dX5_flows_57 : decode cX5_flows 57 = .ok (.getfield 67, 3) := by decide +kernel
theorem dX5_flows_60 : decode cX5_flows 60 = .ok (.iload_n 2, 1) := by decide +kernel
theorem dX5_flows_61 : decode cX5_flows 61 = .ok (.aload_n 0, 1) := by decide +kernel
theorem dX5_flows_62 : decode cX5_flows 62 = .ok (.iload_n 2, 1) := by decide +kernel
theorem dX5_flows_63 : decode cX5_flows 63 = .ok (.invokevirtual 139, 3) := by decide +kernel
theorem dX5_flows_66 : decode cX5_flows 66 = .ok (.lastore, 1) := by decide +kernel
theorem dX5_flows_67 : decode cX5_flows 67 = .ok (.aload_n 0, 1) := by decide +kernel
theorem dX5_flows_68 : decode cX5_flows 68 = .ok (.getfield 121, 3) := by decide +kernel
theorem dX5_flows_71 : decode cX5_flows 71 = .ok (.ifCond .eq 51, 3) := by decide +kernel
theorem dX5_flows_74 : decode cX5_flows 74 = .ok (.aload_n 0, 1) := by decide +kernel
theorem dX5_flows_75 : decode cX5_flows 75 = .ok (.getfield 55, 3) := by decide +kernel
theorem dX5_flows_78 : decode cX5_flows 78 = .ok (.iconst 0, 1) := by decide +kernel
theorem dX5_flows_79 : decode cX5_flows 79 = .ok (.iaload, 1) := by decide +kernel
theorem dX5_flows_80 : decode cX5_flows 80 = .ok (.iload_n 2, 1) := by decide +kernel
theorem dX5_flows_81 : decode cX5_flows 81 = .ok (.if_icmp .eq 6, 3) := by decide +kernel
theorem dX5_flows_84 : decode cX5_flows 84 = .ok (.goto 38, 3) := by decide +kernel
theorem dX5_flows_87 : decode cX5_flows 87 = .ok (.iconst 1, 1) := by decide +kernel
theorem dX5_flows_88 : decode cX5_flows 88 = .ok (.istore_n 3, 1) := by decide +kernel
theorem dX5_flows_89 : decode cX5_flows 89 = .ok (.iload_n 3, 1) := by decide +kernel
theorem dX5_flows_90 : decode cX5_flows 90 = .ok (.aload_n 0, 1) := by decide +kernel
theorem dX5_flows_91 : decode cX5_flows 91 = .ok (.getfield 121, 3) := by decide +kernel
theorem dX5_flows_94 : decode cX5_flows 94 = .ok (.if_icmp .ge 28, 3) := by decide +kernel
theorem dX5_flows_97 : decode cX5_flows 97 = .ok (.aload_n 0, 1) := by decide +kernel
theorem dX5_flows_98 : decode cX5_flows 98 = .ok (.getfield 67, 3) := by decide +kernel
theorem dX5_flows_101 : decode cX5_flows 101 = .ok (.iload_n 2, 1) := by decide +kernel
theorem dX5_flows_102 : decode cX5_flows 102 = .ok (.dup2, 1) := by decide +kernel
theorem dX5_flows_103 : decode cX5_flows 103 = .ok (.laload, 1) := by decide +kernel
theorem dX5_flows_104 : decode cX5_flows 104 = .ok (.aload_n 0, 1) := by decide +kernel
theorem dX5_flows_105 : decode cX5_flows 105 = .ok (.aload_n 0, 1) := by decide +kernel
theorem dX5_flows_106 : decode cX5_flows 106 = .ok (.getfield 55, 3) := by decide +kernel
theorem dX5_flows_109 : decode cX5_flows 109 = .ok (.iload_n 3, 1) := by decide +kernel
theorem dX5_flows_110 : decode cX5_flows 110 = .ok (.iaload, 1) := by decide +kernel
theorem dX5_flows_111 : decode cX5_flows 111 = .ok (.invokevirtual 139, 3) := by decide +kernel
theorem dX5_flows_114 : decode cX5_flows 114 = .ok (.ladd, 1) := by decide +kernel
theorem dX5_flows_115 : decode cX5_flows 115 = .ok (.lastore, 1) := by decide +kernel
theorem dX5_flows_116 : decode cX5_flows 116 = .ok (.iinc 3 1, 3) := by decide +kernel
theorem dX5_flows_119 : decode cX5_flows 119 = .ok (.goto (-30), 3) := by decide +kernel
theorem dX5_flows_122 : decode cX5_flows 122 = .ok (.iinc 2 1, 3) := by decide +kernel
theorem dX5_flows_125 : decode cX5_flows 125 = .ok (.goto (-88), 3) := by decide +kernel
theorem dX5_flows_128 : decode cX5_flows 128 = .ok (.iinc 1 (-1), 3) := by decide +kernel
theorem dX5_flows_131 : decode cX5_flows 131 = .ok (.goto (-100), 3) := by decide +kernel
theorem dX5_flows_134 : decode cX5_flows 134 = .ok (.iconst 0, 1) := by decide +kernel
theorem dX5_flows_135 : decode cX5_flows 135 = .ok (.istore_n 1, 1) := by decide +kernel
theorem dX5_flows_136 : decode cX5_flows 136 = .ok (.iload_n 1, 1) := by decide +kernel
theorem dX5_flows_137 : decode cX5_flows 137 = .ok (.aload_n 0, 1) := by decide +kernel
theorem dX5_flows_138 : decode cX5_flows 138 = .ok (.invokevirtual 106, 3) := by decide +kernel
theorem dX5_flows_141 : decode cX5_flows 141 = .ok (.if_icmp .ge 85, 3) := by decide +kernel
theorem dX5_flows_144 : decode cX5_flows 144 = .ok (.aload_n 0, 1) := by decide +kernel
theorem dX5_flows_145 : decode cX5_flows 145 = .ok (.iload_n 1, 1) := by decide +kernel
theorem dX5_flows_146 : decode cX5_flows 146 = .ok (.iconst 0, 1) := by decide +kernel
theorem dX5_flows_147 : decode cX5_flows 147 = .ok (.invokevirtual 110, 3) := by decide +kernel
theorem dX5_flows_150 : decode cX5_flows 150 = .ok (.istore_n 2, 1) := by decide +kernel
theorem dX5_flows_151 : decode cX5_flows 151 = .ok (.aload_n 0, 1) := by decide +kernel
theorem dX5_flows_152 : decode cX5_flows 152 = .ok (.iload_n 1, 1) := by decide +kernel
theorem dX5_flows_153 : decode cX5_flows 153 = .ok (.iconst 1, 1) := by decide +kernel
theorem dX5_flows_154 : decode cX5_flows 154 = .ok (.invokevirtual 110, 3) := by decide +kernel
theorem dX5_flows_157 : decode cX5_flows 157 = .ok (.istore_n 3, 1) := by decide +kernel
theorem dX5_flows_158 : decode cX5_flows 158 = .ok (.aload_n 0, 1) := by decide +kernel
theorem dX5_flows_159 : decode cX5_flows 159 = .ok (.getfield 42, 3) := by decide +kernel
theorem dX5_flows_162 : decode cX5_flows 162 = .ok (.iload_n 2, 1) := by decide +kernel
theorem dX5_flows_163 : decode cX5_flows 163 = .ok (.iaload, 1) := by decide +kernel
theorem dX5_flows_164 : decode cX5_flows 164 = .ok (.ifCond .lt 56, 3) := by decide +kernel
theorem dX5_flows_167 : decode cX5_flows 167 = .ok (.aload_n 0, 1) := by decide +kernel
theorem dX5_flows_168 : decode cX5_flows 168 = .ok (.iload_n 1, 1) := by decide +kernel
theorem dX5_flows_169 : decode cX5_flows 169 = .ok (.invokevirtual 135, 3) := by decide +kernel
theorem dX5_flows_172 : decode cX5_flows 172 = .ok (.ifCond .eq 6, 3) := by decide +kernel
theorem dX5_flows_175 : decode cX5_flows 175 = .ok (.goto 45, 3) := by decide +kernel
theorem dX5_flows_178 : decode cX5_flows 178 = .ok (.aload_n 0, 1) := by decide +kernel
theorem dX5_flows_179 : decode cX5_flows 179 = .ok (.getfield 42, 3) := by decide +kernel
theorem dX5_flows_182 : decode cX5_flows 182 = .ok (.iload_n 2, 1) := by decide +kernel
theorem dX5_flows_183 : decode cX5_flows 183 = .ok (.iaload, 1) := by decide +kernel
theorem dX5_flows_184 : decode cX5_flows 184 = .ok (.aload_n 0, 1) := by decide +kernel
theorem dX5_flows_185 : decode cX5_flows 185 = .ok (.getfield 42, 3) := by decide +kernel
theorem dX5_flows_188 : decode cX5_flows 188 = .ok (.iload_n 3, 1) := by decide +kernel
theorem dX5_flows_189 : decode cX5_flows 189 = .ok (.iaload, 1) := by decide +kernel
theorem dX5_flows_190 : decode cX5_flows 190 = .ok (.if_icmp .ge 18, 3) := by decide +kernel
theorem dX5_flows_193 : decode cX5_flows 193 = .ok (.aload_n 0, 1) := by decide +kernel
theorem dX5_flows_194 : decode cX5_flows 194 = .ok (.iload_n 1, 1) := by decide +kernel
theorem dX5_flows_195 : decode cX5_flows 195 = .ok (.iload_n 2, 1) := by decide +kernel
theorem dX5_flows_196 : decode cX5_flows 196 = .ok (.aload_n 0, 1) := by decide +kernel
theorem dX5_flows_197 : decode cX5_flows 197 = .ok (.getfield 67, 3) := by decide +kernel
theorem dX5_flows_200 : decode cX5_flows 200 = .ok (.iload_n 3, 1) := by decide +kernel
theorem dX5_flows_201 : decode cX5_flows 201 = .ok (.laload, 1) := by decide +kernel
theorem dX5_flows_202 : decode cX5_flows 202 = .ok (.invokevirtual 155, 3) := by decide +kernel
theorem dX5_flows_205 : decode cX5_flows 205 = .ok (.goto 15, 3) := by decide +kernel
theorem dX5_flows_208 : decode cX5_flows 208 = .ok (.aload_n 0, 1) := by decide +kernel
theorem dX5_flows_209 : decode cX5_flows 209 = .ok (.iload_n 1, 1) := by decide +kernel
theorem dX5_flows_210 : decode cX5_flows 210 = .ok (.iload_n 3, 1) := by decide +kernel
theorem dX5_flows_211 : decode cX5_flows 211 = .ok (.aload_n 0, 1) := by decide +kernel
theorem dX5_flows_212 : decode cX5_flows 212 = .ok (.getfield 67, 3) := by decide +kernel
theorem dX5_flows_215 : decode cX5_flows 215 = .ok (.iload_n 2, 1) := by decide +kernel
theorem dX5_flows_216 : decode cX5_flows 216 = .ok (.laload, 1) := by decide +kernel
theorem dX5_flows_217 : decode cX5_flows 217 = .ok (.invokevirtual 155, 3) := by decide +kernel
theorem dX5_flows_220 : decode cX5_flows 220 = .ok (.iinc 1 1, 3) := by decide +kernel
theorem dX5_flows_223 : decode cX5_flows 223 = .ok (.goto (-87), 3) := by decide +kernel
theorem dX5_flows_226 : decode cX5_flows 226 = .ok (.aload_n 0, 1) := by decide +kernel
theorem dX5_flows_227 : decode cX5_flows 227 = .ok (.getfield 121, 3) := by decide +kernel
theorem dX5_flows_230 : decode cX5_flows 230 = .ok (.ifCond .ne 4, 3) := by decide +kernel
theorem dX5_flows_233 : decode cX5_flows 233 = .ok (.return_, 1) := by decide +kernel
theorem dX5_flows_234 : decode cX5_flows 234 = .ok (.lconst 0, 1) := by decide +kernel
theorem dX5_flows_235 : decode cX5_flows 235 = .ok (.lstore_n 1, 1) := by decide +kernel
theorem dX5_flows_236 : decode cX5_flows 236 = .ok (.ldc2_w 159, 3) := by decide +kernel
theorem dX5_flows_239 : decode cX5_flows 239 = .ok (.lstore_n 3, 1) := by decide +kernel
theorem dX5_flows_240 : decode cX5_flows 240 = .ok (.lload_n 1, 1) := by decide +kernel
theorem dX5_flows_241 : decode cX5_flows 241 = .ok (.lload_n 3, 1) := by decide +kernel
theorem dX5_flows_242 : decode cX5_flows 242 = .ok (.lcmp, 1) := by decide +kernel
theorem dX5_flows_243 : decode cX5_flows 243 = .ok (.ifCond .ge 37, 3) := by decide +kernel
theorem dX5_flows_246 : decode cX5_flows 246 = .ok (.lload_n 1, 1) := by decide +kernel
theorem dX5_flows_247 : decode cX5_flows 247 = .ok (.lload_n 3, 1) := by decide +kernel
theorem dX5_flows_248 : decode cX5_flows 248 = .ok (.ladd, 1) := by decide +kernel
theorem dX5_flows_249 : decode cX5_flows 249 = .ok (.ldc2_w 161, 3) := by decide +kernel
theorem dX5_flows_252 : decode cX5_flows 252 = .ok (.ldiv, 1) := by decide +kernel
theorem dX5_flows_253 : decode cX5_flows 253 = .ok (.lstore 5, 2) := by decide +kernel
theorem dX5_flows_255 : decode cX5_flows 255 = .ok (.aload_n 0, 1) := by decide +kernel
theorem dX5_flows_256 : decode cX5_flows 256 = .ok (.lload 5, 2) := by decide +kernel
theorem dX5_flows_258 : decode cX5_flows 258 = .ok (.invokevirtual 163, 3) := by decide +kernel
theorem dX5_flows_261 : decode cX5_flows 261 = .ok (.lconst 0, 1) := by decide +kernel
theorem dX5_flows_262 : decode cX5_flows 262 = .ok (.lcmp, 1) := by decide +kernel
theorem dX5_flows_263 : decode cX5_flows 263 = .ok (.ifCond .lt 9, 3) := by decide +kernel
theorem dX5_flows_266 : decode cX5_flows 266 = .ok (.lload 5, 2) := by decide +kernel
theorem dX5_flows_268 : decode cX5_flows 268 = .ok (.lstore_n 3, 1) := by decide +kernel
theorem dX5_flows_269 : decode cX5_flows 269 = .ok (.goto 8, 3) := by decide +kernel
theorem dX5_flows_272 : decode cX5_flows 272 = .ok (.lload 5, 2) := by decide +kernel
theorem dX5_flows_274 : decode cX5_flows 274 = .ok (.lconst 1, 1) := by decide +kernel
theorem dX5_flows_275 : decode cX5_flows 275 = .ok (.ladd, 1) := by decide +kernel
theorem dX5_flows_276 : decode cX5_flows 276 = .ok (.lstore_n 1, 1) := by decide +kernel
theorem dX5_flows_277 : decode cX5_flows 277 = .ok (.goto (-37), 3) := by decide +kernel
theorem dX5_flows_280 : decode cX5_flows 280 = .ok (.aload_n 0, 1) := by decide +kernel
theorem dX5_flows_281 : decode cX5_flows 281 = .ok (.aload_n 0, 1) := by decide +kernel
theorem dX5_flows_282 : decode cX5_flows 282 = .ok (.lload_n 1, 1) := by decide +kernel
theorem dX5_flows_283 : decode cX5_flows 283 = .ok (.invokevirtual 163, 3) := by decide +kernel
theorem dX5_flows_286 : decode cX5_flows 286 = .ok (.putfield 151, 3) := by decide +kernel
theorem dX5_flows_289 : decode cX5_flows 289 = .ok (.lload_n 1, 1) := by decide +kernel
theorem dX5_flows_290 : decode cX5_flows 290 = .ok (.lstore 5, 2) := by decide +kernel
theorem dX5_flows_292 : decode cX5_flows 292 = .ok (.iconst 0, 1) := by decide +kernel
theorem dX5_flows_293 : decode cX5_flows 293 = .ok (.istore 7, 2) := by decide +kernel
theorem dX5_flows_295 : decode cX5_flows 295 = .ok (.iload 7, 2) := by decide +kernel
theorem dX5_flows_297 : decode cX5_flows 297 = .ok (.aload_n 0, 1) := by decide +kernel
theorem dX5_flows_298 : decode cX5_flows 298 = .ok (.getfield 121, 3) := by decide +kernel
theorem dX5_flows_301 : decode cX5_flows 301 = .ok (.if_icmp .ge 50, 3) := by decide +kernel
theorem dX5_flows_304 : decode cX5_flows 304 = .ok (.iload 7, 2) := by decide +kernel
theorem dX5_flows_306 : decode cX5_flows 306 = .ok (.ifCond .le 19, 3) := by decide +kernel
theorem dX5_flows_309 : decode cX5_flows 309 = .ok (.lload 5, 2) := by decide +kernel
theorem dX5_flows_311 : decode cX5_flows 311 = .ok (.aload_n 0, 1) := by decide +kernel
theorem dX5_flows_312 : decode cX5_flows 312 = .ok (.aload_n 0, 1) := by decide +kernel
theorem dX5_flows_313 : decode cX5_flows 313 = .ok (.getfield 55, 3) := by decide +kernel
theorem dX5_flows_316 : decode cX5_flows 316 = .ok (.iload 7, 2) := by decide +kernel
theorem dX5_flows_318 : decode cX5_flows 318 = .ok (.iaload, 1) := by decide +kernel
theorem dX5_flows_319 : decode cX5_flows 319 = .ok (.invokevirtual 139, 3) := by decide +kernel
theorem dX5_flows_322 : decode cX5_flows 322 = .ok (.lsub, 1) := by decide +kernel
theorem dX5_flows_323 : decode cX5_flows 323 = .ok (.lstore 5, 2) := by decide +kernel
theorem dX5_flows_325 : decode cX5_flows 325 = .ok (.aload_n 0, 1) := by decide +kernel
theorem dX5_flows_326 : decode cX5_flows 326 = .ok (.aload_n 0, 1) := by decide +kernel
theorem dX5_flows_327 : decode cX5_flows 327 = .ok (.getfield 58, 3) := by decide +kernel
theorem dX5_flows_330 : decode cX5_flows 330 = .ok (.iload 7, 2) := by decide +kernel
theorem dX5_flows_332 : decode cX5_flows 332 = .ok (.iaload, 1) := by decide +kernel
theorem dX5_flows_333 : decode cX5_flows 333 = .ok (.aload_n 0, 1) := by decide +kernel
theorem dX5_flows_334 : decode cX5_flows 334 = .ok (.getfield 55, 3) := by decide +kernel
theorem dX5_flows_337 : decode cX5_flows 337 = .ok (.iload 7, 2) := by decide +kernel
theorem dX5_flows_339 : decode cX5_flows 339 = .ok (.iaload, 1) := by decide +kernel
theorem dX5_flows_340 : decode cX5_flows 340 = .ok (.lload 5, 2) := by decide +kernel
theorem dX5_flows_342 : decode cX5_flows 342 = .ok (.invokevirtual 155, 3) := by decide +kernel
theorem dX5_flows_345 : decode cX5_flows 345 = .ok (.iinc 7 1, 3) := by decide +kernel
theorem dX5_flows_348 : decode cX5_flows 348 = .ok (.goto (-53), 3) := by decide +kernel
theorem dX5_flows_351 : decode cX5_flows 351 = .ok (.return_, 1) := by decide +kernel
theorem dX5_through_0 : decode cX5_through 0 = .ok (.aload_n 0, 1) := by decide +kernel
theorem dX5_through_1 : decode cX5_through 1 = .ok (.getfield 70, 3) := by decide +kernel
theorem dX5_through_4 : decode cX5_through 4 = .ok (.iload_n 1, 1) := by decide +kernel
theorem dX5_through_5 : decode cX5_through 5 = .ok (.iaload, 1) := by decide +kernel
theorem dX5_through_6 : decode cX5_through 6 = .ok (.invokestatic 166, 3) := by decide +kernel
theorem dX5_through_9 : decode cX5_through 9 = .ok (.i2l, 1) := by decide +kernel
theorem dX5_through_10 : decode cX5_through 10 = .ok (.lstore_n 3, 1) := by decide +kernel
theorem dX5_through_11 : decode cX5_through 11 = .ok (.aload_n 0, 1) := by decide +kernel
theorem dX5_through_12 : decode cX5_through 12 = .ok (.getfield 9, 3) := by decide +kernel
theorem dX5_through_15 : decode cX5_through 15 = .ok (.iconst 1, 1) := by decide +kernel
theorem dX5_through_16 : decode cX5_through 16 = .ok (.iaload, 1) := by decide +kernel
theorem dX5_through_17 : decode cX5_through 17 = .ok (.iload_n 2, 1) := by decide +kernel
theorem dX5_through_18 : decode cX5_through 18 = .ok (.aload_n 0, 1) := by decide +kernel
theorem dX5_through_19 : decode cX5_through 19 = .ok (.getfield 9, 3) := by decide +kernel
theorem dX5_through_22 : decode cX5_through 22 = .ok (.iconst 1, 1) := by decide +kernel
theorem dX5_through_23 : decode cX5_through 23 = .ok (.iaload, 1) := by decide +kernel
theorem dX5_through_24 : decode cX5_through 24 = .ok (.isub, 1) := by decide +kernel
theorem dX5_through_25 : decode cX5_through 25 = .ok (.i2l, 1) := by decide +kernel
theorem dX5_through_26 : decode cX5_through 26 = .ok (.ldc2_w 168, 3) := by decide +kernel
theorem dX5_through_29 : decode cX5_through 29 = .ok (.lmul, 1) := by decide +kernel
theorem dX5_through_30 : decode cX5_through 30 = .ok (.lload_n 3, 1) := by decide +kernel
theorem dX5_through_31 : decode cX5_through 31 = .ok (.lmul, 1) := by decide +kernel
theorem dX5_through_32 : decode cX5_through 32 = .ok (.ldc2_w 168, 3) := by decide +kernel
theorem dX5_through_35 : decode cX5_through 35 = .ok (.lload_n 3, 1) := by decide +kernel
theorem dX5_through_36 : decode cX5_through 36 = .ok (.lmul, 1) := by decide +kernel
theorem dX5_through_37 : decode cX5_through 37 = .ok (.aload_n 0, 1) := by decide +kernel
theorem dX5_through_38 : decode cX5_through 38 = .ok (.iload_n 1, 1) := by decide +kernel
theorem dX5_through_39 : decode cX5_through 39 = .ok (.iconst 2, 1) := by decide +kernel
theorem dX5_through_40 : decode cX5_through 40 = .ok (.invokevirtual 110, 3) := by decide +kernel
theorem dX5_through_43 : decode cX5_through 43 = .ok (.i2l, 1) := by decide +kernel
theorem dX5_through_44 : decode cX5_through 44 = .ok (.aload_n 0, 1) := by decide +kernel
theorem dX5_through_45 : decode cX5_through 45 = .ok (.getfield 9, 3) := by decide +kernel
theorem dX5_through_48 : decode cX5_through 48 = .ok (.iconst 3, 1) := by decide +kernel
theorem dX5_through_49 : decode cX5_through 49 = .ok (.iaload, 1) := by decide +kernel
theorem dX5_through_50 : decode cX5_through 50 = .ok (.i2l, 1) := by decide +kernel
theorem dX5_through_51 : decode cX5_through 51 = .ok (.lmul, 1) := by decide +kernel
theorem dX5_through_52 : decode cX5_through 52 = .ok (.ladd, 1) := by decide +kernel
theorem dX5_through_53 : decode cX5_through 53 = .ok (.invokestatic 170, 3) := by decide +kernel
theorem dX5_through_56 : decode cX5_through 56 = .ok (.l2i, 1) := by decide +kernel
theorem dX5_through_57 : decode cX5_through 57 = .ok (.iadd, 1) := by decide +kernel
theorem dX5_through_58 : decode cX5_through 58 = .ok (.ireturn, 1) := by decide +kernel
theorem dX5_from_0 : decode cX5_from 0 = .ok (.aload_n 0, 1) := by decide +kernel
theorem dX5_from_1 : decode cX5_from 1 = .ok (.getfield 70, 3) := by decide +kernel
theorem dX5_from_4 : decode cX5_from 4 = .ok (.iload_n 1, 1) := by decide +kernel
theorem dX5_from_5 : decode cX5_from 5 = .ok (.iaload, 1) := by decide +kernel
theorem dX5_from_6 : decode cX5_from 6 = .ok (.ifCond .le 12, 3) := by decide +kernel
theorem dX5_from_9 : decode cX5_from 9 = .ok (.aload_n 0, 1) := by decide +kernel
theorem dX5_from_10 : decode cX5_from 10 = .ok (.iload_n 1, 1) := by decide +kernel
theorem dX5_from_11 : decode cX5_from 11 = .ok (.iconst 0, 1) := by decide +kernel
theorem dX5_from_12 : decode cX5_from 12 = .ok (.invokevirtual 110, 3) := by decide +kernel
theorem dX5_from_15 : decode cX5_from 15 = .ok (.goto 22, 3) := by decide +kernel
theorem dX5_from_18 : decode cX5_from 18 = .ok (.aload_n 0, 1) := by decide +kernel
theorem dX5_from_19 : decode cX5_from 19 = .ok (.getfield 70, 3) := by decide +kernel
theorem dX5_from_22 : decode cX5_from 22 = .ok (.iload_n 1, 1) := by decide +kernel
theorem dX5_from_23 : decode cX5_from 23 = .ok (.iaload, 1) := by decide +kernel
theorem dX5_from_24 : decode cX5_from 24 = .ok (.ifCond .ge 12, 3) := by decide +kernel
theorem dX5_from_27 : decode cX5_from 27 = .ok (.aload_n 0, 1) := by decide +kernel
theorem dX5_from_28 : decode cX5_from 28 = .ok (.iload_n 1, 1) := by decide +kernel
theorem dX5_from_29 : decode cX5_from 29 = .ok (.iconst 1, 1) := by decide +kernel
theorem dX5_from_30 : decode cX5_from 30 = .ok (.invokevirtual 110, 3) := by decide +kernel
theorem dX5_from_33 : decode cX5_from 33 = .ok (.goto 4, 3) := by decide +kernel
theorem dX5_from_36 : decode cX5_from 36 = .ok (.iconst (-1), 1) := by decide +kernel
theorem dX5_from_37 : decode cX5_from 37 = .ok (.ireturn, 1) := by decide +kernel
theorem dX5_to_0 : decode cX5_to 0 = .ok (.aload_n 0, 1) := by decide +kernel
theorem dX5_to_1 : decode cX5_to 1 = .ok (.getfield 70, 3) := by decide +kernel
theorem dX5_to_4 : decode cX5_to 4 = .ok (.iload_n 1, 1) := by decide +kernel
theorem dX5_to_5 : decode cX5_to 5 = .ok (.iaload, 1) := by decide +kernel
theorem dX5_to_6 : decode cX5_to 6 = .ok (.ifCond .le 12, 3) := by decide +kernel
theorem dX5_to_9 : decode cX5_to 9 = .ok (.aload_n 0, 1) := by decide +kernel
theorem dX5_to_10 : decode cX5_to 10 = .ok (.iload_n 1, 1) := by decide +kernel
theorem dX5_to_11 : decode cX5_to 11 = .ok (.iconst 1, 1) := by decide +kernel
theorem dX5_to_12 : decode cX5_to 12 = .ok (.invokevirtual 110, 3) := by decide +kernel
theorem dX5_to_15 : decode cX5_to 15 = .ok (.goto 22, 3) := by decide +kernel
theorem dX5_to_18 : decode cX5_to 18 = .ok (.aload_n 0, 1) := by decide +kernel
theorem dX5_to_19 : decode cX5_to 19 = .ok (.getfield 70, 3) := by decide +kernel
theorem dX5_to_22 : decode cX5_to 22 = .ok (.iload_n 1, 1) := by decide +kernel
theorem dX5_to_23 : decode cX5_to 23 = .ok (.iaload, 1) := by decide +kernel
theorem dX5_to_24 : decode cX5_to 24 = .ok (.ifCond .ge 12, 3) := by decide +kernel
theorem dX5_to_27 : decode cX5_to 27 = .ok (.aload_n 0, 1) := by decide +kernel
theorem dX5_to_28 : decode cX5_to 28 = .ok (.iload_n 1, 1) := by decide +kernel
theorem dX5_to_29 : decode cX5_to 29 = .ok (.iconst 0, 1) := by decide +kernel
theorem dX5_to_30 : decode cX5_to 30 = .ok (.invokevirtual 110, 3) := by decide +kernel
theorem dX5_to_33 : decode cX5_to 33 = .ok (.goto 4, 3) := by decide +kernel
theorem dX5_to_36 : decode cX5_to 36 = .ok (.iconst (-1), 1) := by decide +kernel
theorem dX5_to_37 : decode cX5_to 37 = .ok (.ireturn, 1) := by decide +kernel
theorem dX5_isReady_0 : decode cX5_isReady 0 = .ok (.iconst 0, 1) := by decide +kernel
theorem dX5_isReady_1 : decode cX5_isReady 1 = .ok (.istore_n 3, 1) := by decide +kernel
theorem dX5_isReady_2 : decode cX5_isReady 2 = .ok (.iload_n 3, 1) := by decide +kernel
theorem dX5_isReady_3 : decode cX5_isReady 3 = .ok (.aload_n 0, 1) := by decide +kernel
theorem dX5_isReady_4 : decode cX5_isReady 4 = .ok (.invokevirtual 106, 3) := by decide +kernel
theorem dX5_isReady_7 : decode cX5_isReady 7 = .ok (.if_icmp .ge 65, 3) := by decide +kernel
theorem dX5_isReady_10 : decode cX5_isReady 10 = .ok (.iload_n 2, 1) := by decide +kernel
theorem dX5_isReady_11 : decode cX5_isReady 11 = .ok (.ifCond .eq 27, 3) := by decide +kernel
theorem dX5_isReady_14 : decode cX5_isReady 14 = .ok (.aload_n 0, 1) := by decide +kernel
theorem dX5_isReady_15 : decode cX5_isReady 15 = .ok (.iload_n 3, 1) := by decide +kernel
theorem dX5_isReady_16 : decode cX5_isReady 16 = .ok (.invokevirtual 174, 3) := by decide +kernel
theorem dX5_isReady_19 : decode cX5_isReady 19 = .ok (.iload_n 1, 1) := by decide +kernel
theorem dX5_isReady_20 : decode cX5_isReady 20 = .ok (.if_icmp .ne 18, 3) := by decide +kernel
theorem dX5_isReady_23 : decode cX5_isReady 23 = .ok (.aload_n 0, 1) := by decide +kernel
theorem dX5_isReady_24 : decode cX5_isReady 24 = .ok (.getfield 82, 3) := by decide +kernel
theorem dX5_isReady_27 : decode cX5_isReady 27 = .ok (.aload_n 0, 1) := by decide +kernel
theorem dX5_isReady_28 : decode cX5_isReady 28 = .ok (.iload_n 3, 1) := by decide +kernel
theorem dX5_isReady_29 : decode cX5_isReady 29 = .ok (.invokevirtual 177, 3) := by decide +kernel
theorem dX5_isReady_32 : decode cX5_isReady 32 = .ok (.baload, 1) := by decide +kernel
theorem dX5_isReady_33 : decode cX5_isReady 33 = .ok (.ifCond .ne 5, 3) := by decide +kernel
theorem dX5_isReady_36 : decode cX5_isReady 36 = .ok (.iconst 0, 1) := by decide +kernel
theorem dX5_isReady_37 : decode cX5_isReady 37 = .ok (.ireturn, 1) := by decide +kernel
theorem dX5_isReady_38 : decode cX5_isReady 38 = .ok (.iload_n 2, 1) := by decide +kernel
theorem dX5_isReady_39 : decode cX5_isReady 39 = .ok (.ifCond .ne 27, 3) := by decide +kernel
theorem dX5_isReady_42 : decode cX5_isReady 42 = .ok (.aload_n 0, 1) := by decide +kernel
theorem dX5_isReady_43 : decode cX5_isReady 43 = .ok (.iload_n 3, 1) := by decide +kernel
theorem dX5_isReady_44 : decode cX5_isReady 44 = .ok (.invokevirtual 177, 3) := by decide +kernel
theorem dX5_isReady_47 : decode cX5_isReady 47 = .ok (.iload_n 1, 1) := by decide +kernel
theorem dX5_isReady_48 : decode cX5_isReady 48 = .ok (.if_icmp .ne 18, 3) := by decide +kernel
theorem dX5_isReady_51 : decode cX5_isReady 51 = .ok (.aload_n 0, 1) := by decide +kernel
theorem dX5_isReady_52 : decode cX5_isReady 52 = .ok (.getfield 82, 3) := by decide +kernel
theorem dX5_isReady_55 : decode cX5_isReady 55 = .ok (.aload_n 0, 1) := by decide +kernel
theorem dX5_isReady_56 : decode cX5_isReady 56 = .ok (.iload_n 3, 1) := by decide +kernel
theorem dX5_isReady_57 : decode cX5_isReady 57 = .ok (.invokevirtual 174, 3) := by decide +kernel
theorem dX5_isReady_60 : decode cX5_isReady 60 = .ok (.baload, 1) := by decide +kernel
theorem dX5_isReady_61 : decode cX5_isReady 61 = .ok (.ifCond .ne 5, 3) := by decide +kernel
theorem dX5_isReady_64 : decode cX5_isReady 64 = .ok (.iconst 0, 1) := by decide +kernel
theorem dX5_isReady_65 : decode cX5_isReady 65 = .ok (.ireturn, 1) := by decide +kernel
theorem dX5_isReady_66 : decode cX5_isReady 66 = .ok (.iinc 3 1, 3) := by decide +kernel
theorem dX5_isReady_69 : decode cX5_isReady 69 = .ok (.goto (-67), 3) := by decide +kernel
theorem dX5_isReady_72 : decode cX5_isReady 72 = .ok (.iconst 1, 1) := by decide +kernel
theorem dX5_isReady_73 : decode cX5_isReady 73 = .ok (.ireturn, 1) := by decide +kernel
theorem dX5_mixes_0 : decode cX5_mixes 0 = .ok (.lconst 0, 1) := by decide +kernel
theorem dX5_mixes_1 : decode cX5_mixes 1 = .ok (.lstore_n 3, 1) := by decide +kernel
theorem dX5_mixes_2 : decode cX5_mixes 2 = .ok (.lconst 0, 1) := by decide +kernel
theorem dX5_mixes_3 : decode cX5_mixes 3 = .ok (.lstore 5, 2) := by decide +kernel
theorem dX5_mixes_5 : decode cX5_mixes 5 = .ok (.iload_n 2, 1) := by decide +kernel
theorem dX5_mixes_6 : decode cX5_mixes 6 = .ok (.ifCond .eq 49, 3) := by decide +kernel
theorem dX5_mixes_9 : decode cX5_mixes 9 = .ok (.aload_n 0, 1) := by decide +kernel
theorem dX5_mixes_10 : decode cX5_mixes 10 = .ok (.iload_n 1, 1) := by decide +kernel
theorem dX5_mixes_11 : decode cX5_mixes 11 = .ok (.invokevirtual 180, 3) := by decide +kernel
theorem dX5_mixes_14 : decode cX5_mixes 14 = .ok (.ifCond .eq 41, 3) := by decide +kernel
theorem dX5_mixes_17 : decode cX5_mixes 17 = .ok (.lload_n 3, 1) := by decide +kernel
theorem dX5_mixes_18 : decode cX5_mixes 18 = .ok (.aload_n 0, 1) := by decide +kernel
theorem dX5_mixes_19 : decode cX5_mixes 19 = .ok (.getfield 61, 3) := by decide +kernel
theorem dX5_mixes_22 : decode cX5_mixes 22 = .ok (.iload_n 1, 1) := by decide +kernel
theorem dX5_mixes_23 : decode cX5_mixes 23 = .ok (.iaload, 1) := by decide +kernel
theorem dX5_mixes_24 : decode cX5_mixes 24 = .ok (.i2l, 1) := by decide +kernel
theorem dX5_mixes_25 : decode cX5_mixes 25 = .ok (.aload_n 0, 1) := by decide +kernel
theorem dX5_mixes_26 : decode cX5_mixes 26 = .ok (.getfield 9, 3) := by decide +kernel
theorem dX5_mixes_29 : decode cX5_mixes 29 = .ok (.bipush 48, 2) := by decide +kernel
theorem dX5_mixes_31 : decode cX5_mixes 31 = .ok (.bipush 6, 2) := by decide +kernel
theorem dX5_mixes_33 : decode cX5_mixes 33 = .ok (.iload_n 1, 1) := by decide +kernel
theorem dX5_mixes_34 : decode cX5_mixes 34 = .ok (.imul, 1) := by decide +kernel
theorem dX5_mixes_35 : decode cX5_mixes 35 = .ok (.iadd, 1) := by decide +kernel
theorem dX5_mixes_36 : decode cX5_mixes 36 = .ok (.iconst 2, 1) := by decide +kernel
theorem dX5_mixes_37 : decode cX5_mixes 37 = .ok (.iadd, 1) := by decide +kernel
theorem dX5_mixes_38 : decode cX5_mixes 38 = .ok (.iaload, 1) := by decide +kernel
theorem dX5_mixes_39 : decode cX5_mixes 39 = .ok (.i2l, 1) := by decide +kernel
theorem dX5_mixes_40 : decode cX5_mixes 40 = .ok (.lmul, 1) := by decide +kernel
theorem dX5_mixes_41 : decode cX5_mixes 41 = .ok (.ladd, 1) := by decide +kernel
theorem dX5_mixes_42 : decode cX5_mixes 42 = .ok (.lstore_n 3, 1) := by decide +kernel
theorem dX5_mixes_43 : decode cX5_mixes 43 = .ok (.lload 5, 2) := by decide +kernel
theorem dX5_mixes_45 : decode cX5_mixes 45 = .ok (.aload_n 0, 1) := by decide +kernel
theorem dX5_mixes_46 : decode cX5_mixes 46 = .ok (.getfield 61, 3) := by decide +kernel
theorem dX5_mixes_49 : decode cX5_mixes 49 = .ok (.iload_n 1, 1) := by decide +kernel
theorem dX5_mixes_50 : decode cX5_mixes 50 = .ok (.iaload, 1) := by decide +kernel
theorem dX5_mixes_51 : decode cX5_mixes 51 = .ok (.i2l, 1) := by decide +kernel
theorem dX5_mixes_52 : decode cX5_mixes 52 = .ok (.ladd, 1) := by decide +kernel
theorem dX5_mixes_53 : decode cX5_mixes 53 = .ok (.lstore 5, 2) := by decide +kernel
theorem dX5_mixes_55 : decode cX5_mixes 55 = .ok (.iconst 0, 1) := by decide +kernel
theorem dX5_mixes_56 : decode cX5_mixes 56 = .ok (.istore 7, 2) := by decide +kernel
theorem dX5_mixes_58 : decode cX5_mixes 58 = .ok (.iload 7, 2) := by decide +kernel
theorem dX5_mixes_60 : decode cX5_mixes 60 = .ok (.aload_n 0, 1) := by decide +kernel
theorem dX5_mixes_61 : decode cX5_mixes 61 = .ok (.invokevirtual 106, 3) := by decide +kernel
theorem dX5_mixes_64 : decode cX5_mixes 64 = .ok (.if_icmp .ge 112, 3) := by decide +kernel
theorem dX5_mixes_67 : decode cX5_mixes 67 = .ok (.aload_n 0, 1) := by decide +kernel
theorem dX5_mixes_68 : decode cX5_mixes 68 = .ok (.getfield 70, 3) := by decide +kernel
theorem dX5_mixes_71 : decode cX5_mixes 71 = .ok (.iload 7, 2) := by decide +kernel
theorem dX5_mixes_73 : decode cX5_mixes 73 = .ok (.iaload, 1) := by decide +kernel
theorem dX5_mixes_74 : decode cX5_mixes 74 = .ok (.invokestatic 166, 3) := by decide +kernel
theorem dX5_mixes_77 : decode cX5_mixes 77 = .ok (.i2l, 1) := by decide +kernel
theorem dX5_mixes_78 : decode cX5_mixes 78 = .ok (.lstore 8, 2) := by decide +kernel
theorem dX5_mixes_80 : decode cX5_mixes 80 = .ok (.iload_n 2, 1) := by decide +kernel
theorem dX5_mixes_81 : decode cX5_mixes 81 = .ok (.ifCond .eq 44, 3) := by decide +kernel
theorem dX5_mixes_84 : decode cX5_mixes 84 = .ok (.aload_n 0, 1) := by decide +kernel
theorem dX5_mixes_85 : decode cX5_mixes 85 = .ok (.iload 7, 2) := by decide +kernel
theorem dX5_mixes_87 : decode cX5_mixes 87 = .ok (.invokevirtual 174, 3) := by decide +kernel
theorem dX5_mixes_90 : decode cX5_mixes 90 = .ok (.iload_n 1, 1) := by decide +kernel
theorem dX5_mixes_91 : decode cX5_mixes 91 = .ok (.if_icmp .ne 34, 3) := by decide +kernel
theorem dX5_mixes_94 : decode cX5_mixes 94 = .ok (.lload_n 3, 1) := by decide +kernel
theorem dX5_mixes_95 : decode cX5_mixes 95 = .ok (.lload 8, 2) := by decide +kernel
theorem dX5_mixes_97 : decode cX5_mixes 97 = .ok (.aload_n 0, 1) := by decide +kernel
theorem dX5_mixes_98 : decode cX5_mixes 98 = .ok (.iload 7, 2) := by decide +kernel
theorem dX5_mixes_100 : decode cX5_mixes 100 = .ok (.aload_n 0, 1) := by decide +kernel
theorem dX5_mixes_101 : decode cX5_mixes 101 = .ok (.getfield 76, 3) := by decide +kernel
theorem dX5_mixes_104 : decode cX5_mixes 104 = .ok (.aload_n 0, 1) := by decide +kernel
theorem dX5_mixes_105 : decode cX5_mixes 105 = .ok (.iload 7, 2) := by decide +kernel
theorem dX5_mixes_107 : decode cX5_mixes 107 = .ok (.invokevirtual 177, 3) := by decide +kernel
theorem dX5_mixes_110 : decode cX5_mixes 110 = .ok (.iaload, 1) := by decide +kernel
theorem dX5_mixes_111 : decode cX5_mixes 111 = .ok (.invokevirtual 183, 3) := by decide +kernel
theorem dX5_mixes_114 : decode cX5_mixes 114 = .ok (.i2l, 1) := by decide +kernel
theorem dX5_mixes_115 : decode cX5_mixes 115 = .ok (.lmul, 1) := by decide +kernel
theorem dX5_mixes_116 : decode cX5_mixes 116 = .ok (.ladd, 1) := by decide +kernel
theorem dX5_mixes_117 : decode cX5_mixes 117 = .ok (.lstore_n 3, 1) := by decide +kernel
theorem dX5_mixes_118 : decode cX5_mixes 118 = .ok (.lload 5, 2) := by decide +kernel
theorem dX5_mixes_120 : decode cX5_mixes 120 = .ok (.lload 8, 2) := by decide +kernel
theorem dX5_mixes_122 : decode cX5_mixes 122 = .ok (.ladd, 1) := by decide +kernel
theorem dX5_mixes_123 : decode cX5_mixes 123 = .ok (.lstore 5, 2) := by decide +kernel
theorem dX5_mixes_125 : decode cX5_mixes 125 = .ok (.iload_n 2, 1) := by decide +kernel
theorem dX5_mixes_126 : decode cX5_mixes 126 = .ok (.ifCond .ne 44, 3) := by decide +kernel
theorem dX5_mixes_129 : decode cX5_mixes 129 = .ok (.aload_n 0, 1) := by decide +kernel
theorem dX5_mixes_130 : decode cX5_mixes 130 = .ok (.iload 7, 2) := by decide +kernel
theorem dX5_mixes_132 : decode cX5_mixes 132 = .ok (.invokevirtual 177, 3) := by decide +kernel
theorem dX5_mixes_135 : decode cX5_mixes 135 = .ok (.iload_n 1, 1) := by decide +kernel
theorem dX5_mixes_136 : decode cX5_mixes 136 = .ok (.if_icmp .ne 34, 3) := by decide +kernel
theorem dX5_mixes_139 : decode cX5_mixes 139 = .ok (.lload_n 3, 1) := by decide +kernel
theorem dX5_mixes_140 : decode cX5_mixes 140 = .ok (.lload 8, 2) := by decide +kernel
theorem dX5_mixes_142 : decode cX5_mixes 142 = .ok (.aload_n 0, 1) := by decide +kernel
theorem dX5_mixes_143 : decode cX5_mixes 143 = .ok (.iload 7, 2) := by decide +kernel
theorem dX5_mixes_145 : decode cX5_mixes 145 = .ok (.aload_n 0, 1) := by decide +kernel
theorem dX5_mixes_146 : decode cX5_mixes 146 = .ok (.getfield 73, 3) := by decide +kernel
theorem dX5_mixes_149 : decode cX5_mixes 149 = .ok (.aload_n 0, 1) := by decide +kernel
theorem dX5_mixes_150 : decode cX5_mixes 150 = .ok (.iload 7, 2) := by decide +kernel
theorem dX5_mixes_152 : decode cX5_mixes 152 = .ok (.invokevirtual 174, 3) := by decide +kernel
theorem dX5_mixes_155 : decode cX5_mixes 155 = .ok (.iaload, 1) := by decide +kernel
theorem dX5_mixes_156 : decode cX5_mixes 156 = .ok (.invokevirtual 183, 3) := by decide +kernel
theorem dX5_mixes_159 : decode cX5_mixes 159 = .ok (.i2l, 1) := by decide +kernel
theorem dX5_mixes_160 : decode cX5_mixes 160 = .ok (.lmul, 1) := by decide +kernel
theorem dX5_mixes_161 : decode cX5_mixes 161 = .ok (.ladd, 1) := by decide +kernel
theorem dX5_mixes_162 : decode cX5_mixes 162 = .ok (.lstore_n 3, 1) := by decide +kernel
theorem dX5_mixes_163 : decode cX5_mixes 163 = .ok (.lload 5, 2) := by decide +kernel
theorem dX5_mixes_165 : decode cX5_mixes 165 = .ok (.lload 8, 2) := by decide +kernel
theorem dX5_mixes_167 : decode cX5_mixes 167 = .ok (.ladd, 1) := by decide +kernel
theorem dX5_mixes_168 : decode cX5_mixes 168 = .ok (.lstore 5, 2) := by decide +kernel
theorem dX5_mixes_170 : decode cX5_mixes 170 = .ok (.iinc 7 1, 3) := by decide +kernel
theorem dX5_mixes_173 : decode cX5_mixes 173 = .ok (.goto (-115), 3) := by decide +kernel
theorem dX5_mixes_176 : decode cX5_mixes 176 = .ok (.lload 5, 2) := by decide +kernel
theorem dX5_mixes_178 : decode cX5_mixes 178 = .ok (.lconst 0, 1) := by decide +kernel
theorem dX5_mixes_179 : decode cX5_mixes 179 = .ok (.lcmp, 1) := by decide +kernel
theorem dX5_mixes_180 : decode cX5_mixes 180 = .ok (.ifCond .ne 12, 3) := by decide +kernel
theorem dX5_mixes_183 : decode cX5_mixes 183 = .ok (.aload_n 0, 1) := by decide +kernel
theorem dX5_mixes_184 : decode cX5_mixes 184 = .ok (.getfield 9, 3) := by decide +kernel
theorem dX5_mixes_187 : decode cX5_mixes 187 = .ok (.iconst 1, 1) := by decide +kernel
theorem dX5_mixes_188 : decode cX5_mixes 188 = .ok (.iaload, 1) := by decide +kernel
theorem dX5_mixes_189 : decode cX5_mixes 189 = .ok (.goto 10, 3) := by decide +kernel
theorem dX5_mixes_192 : decode cX5_mixes 192 = .ok (.lload_n 3, 1) := by decide +kernel
theorem dX5_mixes_193 : decode cX5_mixes 193 = .ok (.lload 5, 2) := by decide +kernel
theorem dX5_mixes_195 : decode cX5_mixes 195 = .ok (.invokestatic 170, 3) := by decide +kernel
theorem dX5_mixes_198 : decode cX5_mixes 198 = .ok (.l2i, 1) := by decide +kernel
theorem dX5_mixes_199 : decode cX5_mixes 199 = .ok (.istore 7, 2) := by decide +kernel
theorem dX5_mixes_201 : decode cX5_mixes 201 = .ok (.lload 5, 2) := by decide +kernel
theorem dX5_mixes_203 : decode cX5_mixes 203 = .ok (.lconst 0, 1) := by decide +kernel
theorem dX5_mixes_204 : decode cX5_mixes 204 = .ok (.lcmp, 1) := by decide +kernel
theorem dX5_mixes_205 : decode cX5_mixes 205 = .ok (.ifCond .le 18, 3) := by decide +kernel
theorem dX5_mixes_208 : decode cX5_mixes 208 = .ok (.aload_n 0, 1) := by decide +kernel
theorem dX5_mixes_209 : decode cX5_mixes 209 = .ok (.getfield 79, 3) := by decide +kernel
theorem dX5_mixes_212 : decode cX5_mixes 212 = .ok (.iload_n 1, 1) := by decide +kernel
theorem dX5_mixes_213 : decode cX5_mixes 213 = .ok (.dup2, 1) := by decide +kernel
theorem dX5_mixes_214 : decode cX5_mixes 214 = .ok (.laload, 1) := by decide +kernel
theorem dX5_mixes_215 : decode cX5_mixes 215 = .ok (.lload_n 3, 1) := by decide +kernel
theorem dX5_mixes_216 : decode cX5_mixes 216 = .ok (.lload 5, 2) := by decide +kernel
theorem dX5_mixes_218 : decode cX5_mixes 218 = .ok (.invokestatic 186, 3) := by decide +kernel
theorem dX5_mixes_221 : decode cX5_mixes 221 = .ok (.ladd, 1) := by decide +kernel
theorem dX5_mixes_222 : decode cX5_mixes 222 = .ok (.lastore, 1) := by decide +kernel
theorem dX5_mixes_223 : decode cX5_mixes 223 = .ok (.iload_n 2, 1) := by decide +kernel
theorem dX5_mixes_224 : decode cX5_mixes 224 = .ok (.ifCond .eq 14, 3) := by decide +kernel
theorem dX5_mixes_227 : decode cX5_mixes 227 = .ok (.aload_n 0, 1) := by decide +kernel
theorem dX5_mixes_228 : decode cX5_mixes 228 = .ok (.getfield 76, 3) := by decide +kernel
theorem dX5_mixes_231 : decode cX5_mixes 231 = .ok (.iload_n 1, 1) := by decide +kernel
theorem dX5_mixes_232 : decode cX5_mixes 232 = .ok (.iload 7, 2) := by decide +kernel
theorem dX5_mixes_234 : decode cX5_mixes 234 = .ok (.iastore, 1) := by decide +kernel
theorem dX5_mixes_235 : decode cX5_mixes 235 = .ok (.goto 11, 3) := by decide +kernel
theorem dX5_mixes_238 : decode cX5_mixes 238 = .ok (.aload_n 0, 1) := by decide +kernel
theorem dX5_mixes_239 : decode cX5_mixes 239 = .ok (.getfield 73, 3) := by decide +kernel
theorem dX5_mixes_242 : decode cX5_mixes 242 = .ok (.iload_n 1, 1) := by decide +kernel
theorem dX5_mixes_243 : decode cX5_mixes 243 = .ok (.iload 7, 2) := by decide +kernel
theorem dX5_mixes_245 : decode cX5_mixes 245 = .ok (.iastore, 1) := by decide +kernel
theorem dX5_mixes_246 : decode cX5_mixes 246 = .ok (.return_, 1) := by decide +kernel
theorem dX5_temperatures_0 : decode cX5_temperatures 0 = .ok (.iconst 0, 1) := by decide +kernel
theorem dX5_temperatures_1 : decode cX5_temperatures 1 = .ok (.istore_n 1, 1) := by decide +kernel
theorem dX5_temperatures_2 : decode cX5_temperatures 2 = .ok (.iload_n 1, 1) := by decide +kernel
theorem dX5_temperatures_3 : decode cX5_temperatures 3 = .ok (.bipush 10, 2) := by decide +kernel
theorem dX5_temperatures_5 : decode cX5_temperatures 5 = .ok (.if_icmp .ge 16, 3) := by decide +kernel
theorem dX5_temperatures_8 : decode cX5_temperatures 8 = .ok (.aload_n 0, 1) := by decide +kernel
theorem dX5_temperatures_9 : decode cX5_temperatures 9 = .ok (.getfield 79, 3) := by decide +kernel
theorem dX5_temperatures_12 : decode cX5_temperatures 12 = .ok (.iload_n 1, 1) := by decide +kernel
theorem dX5_temperatures_13 : decode cX5_temperatures 13 = .ok (.lconst 0, 1) := by decide +kernel
theorem dX5_temperatures_14 : decode cX5_temperatures 14 = .ok (.lastore, 1) := by decide +kernel
theorem dX5_temperatures_15 : decode cX5_temperatures 15 = .ok (.iinc 1 1, 3) := by decide +kernel
theorem dX5_temperatures_18 : decode cX5_temperatures 18 = .ok (.goto (-16), 3) := by decide +kernel
theorem dX5_temperatures_21 : decode cX5_temperatures 21 = .ok (.iconst 0, 1) := by decide +kernel
theorem dX5_temperatures_22 : decode cX5_temperatures 22 = .ok (.istore_n 1, 1) := by decide +kernel
theorem dX5_temperatures_23 : decode cX5_temperatures 23 = .ok (.iload_n 1, 1) := by decide +kernel
theorem dX5_temperatures_24 : decode cX5_temperatures 24 = .ok (.iconst 2, 1) := by decide +kernel
theorem dX5_temperatures_25 : decode cX5_temperatures 25 = .ok (.if_icmp .ge 132, 3) := by decide +kernel
theorem dX5_temperatures_28 : decode cX5_temperatures 28 = .ok (.iload_n 1, 1) := by decide +kernel
theorem dX5_temperatures_29 : decode cX5_temperatures 29 = .ok (.iconst 1, 1) := by decide +kernel
theorem dX5_temperatures_30 : decode cX5_temperatures 30 = .ok (.if_icmp .ne 7, 3) := by decide +kernel
theorem dX5_temperatures_33 : decode cX5_temperatures 33 = .ok (.iconst 1, 1) := by decide +kernel
theorem dX5_temperatures_34 : decode cX5_temperatures 34 = .ok (.goto 4, 3) := by decide +kernel
theorem dX5_temperatures_37 : decode cX5_temperatures 37 = .ok (.iconst 0, 1) := by decide +kernel
theorem dX5_temperatures_38 : decode cX5_temperatures 38 = .ok (.istore_n 2, 1) := by decide +kernel
theorem dX5_temperatures_39 : decode cX5_temperatures 39 = .ok (.iconst 0, 1) := by decide +kernel
theorem dX5_temperatures_40 : decode cX5_temperatures 40 = .ok (.istore_n 3, 1) := by decide +kernel
theorem dX5_temperatures_41 : decode cX5_temperatures 41 = .ok (.iload_n 3, 1) := by decide +kernel
theorem dX5_temperatures_42 : decode cX5_temperatures 42 = .ok (.bipush 10, 2) := by decide +kernel
theorem dX5_temperatures_44 : decode cX5_temperatures 44 = .ok (.if_icmp .ge 16, 3) := by decide +kernel
theorem dX5_temperatures_47 : decode cX5_temperatures 47 = .ok (.aload_n 0, 1) := by decide +kernel
theorem dX5_temperatures_48 : decode cX5_temperatures 48 = .ok (.getfield 82, 3) := by decide +kernel
theorem dX5_temperatures_51 : decode cX5_temperatures 51 = .ok (.iload_n 3, 1) := by decide +kernel
theorem dX5_temperatures_52 : decode cX5_temperatures 52 = .ok (.iconst 0, 1) := by decide +kernel
theorem dX5_temperatures_53 : decode cX5_temperatures 53 = .ok (.bastore, 1) := by decide +kernel
theorem dX5_temperatures_54 : decode cX5_temperatures 54 = .ok (.iinc 3 1, 3) := by decide +kernel
theorem dX5_temperatures_57 : decode cX5_temperatures 57 = .ok (.goto (-16), 3) := by decide +kernel
theorem dX5_temperatures_60 : decode cX5_temperatures 60 = .ok (.iload_n 2, 1) := by decide +kernel
theorem dX5_temperatures_61 : decode cX5_temperatures 61 = .ok (.ifCond .ne 22, 3) := by decide +kernel
theorem dX5_temperatures_64 : decode cX5_temperatures 64 = .ok (.aload_n 0, 1) := by decide +kernel
theorem dX5_temperatures_65 : decode cX5_temperatures 65 = .ok (.getfield 73, 3) := by decide +kernel
theorem dX5_temperatures_68 : decode cX5_temperatures 68 = .ok (.iconst 0, 1) := by decide +kernel
theorem dX5_temperatures_69 : decode cX5_temperatures 69 = .ok (.aload_n 0, 1) := by decide +kernel
theorem dX5_temperatures_70 : decode cX5_temperatures 70 = .ok (.getfield 9, 3) := by decide +kernel
theorem dX5_temperatures_73 : decode cX5_temperatures 73 = .ok (.iconst 0, 1) := by decide +kernel
theorem dX5_temperatures_74 : decode cX5_temperatures 74 = .ok (.iaload, 1) := by decide +kernel
theorem dX5_temperatures_75 : decode cX5_temperatures 75 = .ok (.iastore, 1) := by decide +kernel
theorem dX5_temperatures_76 : decode cX5_temperatures 76 = .ok (.aload_n 0, 1) := by decide +kernel
theorem dX5_temperatures_77 : decode cX5_temperatures 77 = .ok (.getfield 82, 3) := by decide +kernel
theorem dX5_temperatures_80 : decode cX5_temperatures 80 = .ok (.iconst 0, 1) := by decide +kernel
theorem dX5_temperatures_81 : decode cX5_temperatures 81 = .ok (.iconst 1, 1) := by decide +kernel
theorem dX5_temperatures_82 : decode cX5_temperatures 82 = .ok (.bastore, 1) := by decide +kernel
theorem dX5_temperatures_83 : decode cX5_temperatures 83 = .ok (.iconst 0, 1) := by decide +kernel
theorem dX5_temperatures_84 : decode cX5_temperatures 84 = .ok (.istore_n 3, 1) := by decide +kernel
theorem dX5_temperatures_85 : decode cX5_temperatures 85 = .ok (.iload_n 3, 1) := by decide +kernel
theorem dX5_temperatures_86 : decode cX5_temperatures 86 = .ok (.bipush 10, 2) := by decide +kernel
theorem dX5_temperatures_88 : decode cX5_temperatures 88 = .ok (.if_icmp .ge 63, 3) := by decide +kernel
theorem dX5_temperatures_91 : decode cX5_temperatures 91 = .ok (.iconst 0, 1) := by decide +kernel
theorem dX5_temperatures_92 : decode cX5_temperatures 92 = .ok (.istore 4, 2) := by decide +kernel
theorem dX5_temperatures_94 : decode cX5_temperatures 94 = .ok (.iload 4, 2) := by decide +kernel
theorem dX5_temperatures_96 : decode cX5_temperatures 96 = .ok (.bipush 10, 2) := by decide +kernel
theorem dX5_temperatures_98 : decode cX5_temperatures 98 = .ok (.if_icmp .ge 47, 3) := by decide +kernel
theorem dX5_temperatures_101 : decode cX5_temperatures 101 = .ok (.aload_n 0, 1) := by decide +kernel
theorem dX5_temperatures_102 : decode cX5_temperatures 102 = .ok (.getfield 82, 3) := by decide +kernel
theorem dX5_temperatures_105 : decode cX5_temperatures 105 = .ok (.iload 4, 2) := by decide +kernel
theorem dX5_temperatures_107 : decode cX5_temperatures 107 = .ok (.baload, 1) := by decide +kernel
theorem dX5_temperatures_108 : decode cX5_temperatures 108 = .ok (.ifCond .ne 31, 3) := by decide +kernel
theorem dX5_temperatures_111 : decode cX5_temperatures 111 = .ok (.aload_n 0, 1) := by decide +kernel
theorem dX5_temperatures_112 : decode cX5_temperatures 112 = .ok (.iload 4, 2) := by decide +kernel
theorem dX5_temperatures_114 : decode cX5_temperatures 114 = .ok (.iload_n 2, 1) := by decide +kernel
theorem dX5_temperatures_115 : decode cX5_temperatures 115 = .ok (.invokevirtual 189, 3) := by decide +kernel
theorem dX5_temperatures_118 : decode cX5_temperatures 118 = .ok (.ifCond .ne 6, 3) := by decide +kernel
theorem dX5_temperatures_121 : decode cX5_temperatures 121 = .ok (.goto 18, 3) := by decide +kernel
theorem dX5_temperatures_124 : decode cX5_temperatures 124 = .ok (.aload_n 0, 1) := by decide +kernel
theorem dX5_temperatures_125 : decode cX5_temperatures 125 = .ok (.iload 4, 2) := by decide +kernel
theorem dX5_temperatures_127 : decode cX5_temperatures 127 = .ok (.iload_n 2, 1) := by decide +kernel
theorem dX5_temperatures_128 : decode cX5_temperatures 128 = .ok (.invokevirtual 193, 3) := by decide +kernel
theorem dX5_temperatures_131 : decode cX5_temperatures 131 = .ok (.aload_n 0, 1) := by decide +kernel
theorem dX5_temperatures_132 : decode cX5_temperatures 132 = .ok (.getfield 82, 3) := by decide +kernel
theorem dX5_temperatures_135 : decode cX5_temperatures 135 = .ok (.iload 4, 2) := by decide +kernel
theorem dX5_temperatures_137 : decode cX5_temperatures 137 = .ok (.iconst 1, 1) := by decide +kernel
theorem dX5_temperatures_138 : decode cX5_temperatures 138 = .ok (.bastore, 1) := by decide +kernel
theorem dX5_temperatures_139 : decode cX5_temperatures 139 = .ok (.iinc 4 1, 3) := by decide +kernel
theorem dX5_temperatures_142 : decode cX5_temperatures 142 = .ok (.goto (-48), 3) := by decide +kernel
theorem dX5_temperatures_145 : decode cX5_temperatures 145 = .ok (.iinc 3 1, 3) := by decide +kernel
theorem dX5_temperatures_148 : decode cX5_temperatures 148 = .ok (.goto (-63), 3) := by decide +kernel
theorem dX5_temperatures_151 : decode cX5_temperatures 151 = .ok (.iinc 1 1, 3) := by decide +kernel
theorem dX5_temperatures_154 : decode cX5_temperatures 154 = .ok (.goto (-131), 3) := by decide +kernel
theorem dX5_temperatures_157 : decode cX5_temperatures 157 = .ok (.return_, 1) := by decide +kernel
theorem dX5_looks_0 : decode cX5_looks 0 = .ok (.aload_n 0, 1) := by decide +kernel
theorem dX5_looks_1 : decode cX5_looks 1 = .ok (.invokevirtual 197, 3) := by decide +kernel
theorem dX5_looks_4 : decode cX5_looks 4 = .ok (.aload_n 0, 1) := by decide +kernel
theorem dX5_looks_5 : decode cX5_looks 5 = .ok (.iconst 0, 1) := by decide +kernel
theorem dX5_looks_6 : decode cX5_looks 6 = .ok (.putfield 200, 3) := by decide +kernel
theorem dX5_looks_9 : decode cX5_looks 9 = .ok (.iconst 1, 1) := by decide +kernel
theorem dX5_looks_10 : decode cX5_looks 10 = .ok (.istore_n 1, 1) := by decide +kernel
theorem dX5_looks_11 : decode cX5_looks 11 = .ok (.iload_n 1, 1) := by decide +kernel
theorem dX5_looks_12 : decode cX5_looks 12 = .ok (.ifCond .eq 154, 3) := by decide +kernel
theorem dX5_looks_15 : decode cX5_looks 15 = .ok (.aload_n 0, 1) := by decide +kernel
theorem dX5_looks_16 : decode cX5_looks 16 = .ok (.getfield 200, 3) := by decide +kernel
theorem dX5_looks_19 : decode cX5_looks 19 = .ok (.bipush 12, 2) := by decide +kernel
theorem dX5_looks_21 : decode cX5_looks 21 = .ok (.if_icmp .ge 145, 3) := by decide +kernel
theorem dX5_looks_24 : decode cX5_looks 24 = .ok (.iconst 0, 1) := by decide +kernel
theorem dX5_looks_25 : decode cX5_looks 25 = .ok (.istore_n 2, 1) := by decide +kernel
theorem dX5_looks_26 : decode cX5_looks 26 = .ok (.iload_n 2, 1) := by decide +kernel
theorem dX5_looks_27 : decode cX5_looks 27 = .ok (.bipush 10, 2) := by decide +kernel
theorem dX5_looks_29 : decode cX5_looks 29 = .ok (.if_icmp .ge 66, 3) := by decide +kernel
theorem dX5_looks_32 : decode cX5_looks 32 = .ok (.aload_n 0, 1) := by decide +kernel
theorem dX5_looks_33 : decode cX5_looks 33 = .ok (.getfield 64, 3) := by decide +kernel
theorem dX5_looks_36 : decode cX5_looks 36 = .ok (.iload_n 2, 1) := by decide +kernel
theorem dX5_looks_37 : decode cX5_looks 37 = .ok (.aload_n 0, 1) := by decide +kernel
theorem dX5_looks_38 : decode cX5_looks 38 = .ok (.getfield 61, 3) := by decide +kernel
theorem dX5_looks_41 : decode cX5_looks 41 = .ok (.iload_n 2, 1) := by decide +kernel
theorem dX5_looks_42 : decode cX5_looks 42 = .ok (.iaload, 1) := by decide +kernel
theorem dX5_looks_43 : decode cX5_looks 43 = .ok (.iastore, 1) := by decide +kernel
theorem dX5_looks_44 : decode cX5_looks 44 = .ok (.aload_n 0, 1) := by decide +kernel
theorem dX5_looks_45 : decode cX5_looks 45 = .ok (.getfield 61, 3) := by decide +kernel
theorem dX5_looks_48 : decode cX5_looks 48 = .ok (.iload_n 2, 1) := by decide +kernel
theorem dX5_looks_49 : decode cX5_looks 49 = .ok (.aload_n 0, 1) := by decide +kernel
theorem dX5_looks_50 : decode cX5_looks 50 = .ok (.iload_n 2, 1) := by decide +kernel
theorem dX5_looks_51 : decode cX5_looks 51 = .ok (.invokevirtual 180, 3) := by decide +kernel
theorem dX5_looks_54 : decode cX5_looks 54 = .ok (.ifCond .eq 33, 3) := by decide +kernel
theorem dX5_looks_57 : decode cX5_looks 57 = .ok (.aload_n 0, 1) := by decide +kernel
theorem dX5_looks_58 : decode cX5_looks 58 = .ok (.iload_n 2, 1) := by decide +kernel
theorem dX5_looks_59 : decode cX5_looks 59 = .ok (.aload_n 0, 1) := by decide +kernel
theorem dX5_looks_60 : decode cX5_looks 60 = .ok (.getfield 200, 3) := by decide +kernel
theorem dX5_looks_63 : decode cX5_looks 63 = .ok (.ifCond .ne 12, 3) := by decide +kernel
theorem dX5_looks_66 : decode cX5_looks 66 = .ok (.aload_n 0, 1) := by decide +kernel
theorem dX5_looks_67 : decode cX5_looks 67 = .ok (.getfield 9, 3) := by decide +kernel
theorem dX5_looks_70 : decode cX5_looks 70 = .ok (.iconst 0, 1) := by decide +kernel
theorem dX5_looks_71 : decode cX5_looks 71 = .ok (.iaload, 1) := by decide +kernel
theorem dX5_looks_72 : decode cX5_looks 72 = .ok (.goto 9, 3) := by decide +kernel
theorem dX5_looks_75 : decode cX5_looks 75 = .ok (.aload_n 0, 1) := by decide +kernel
theorem dX5_looks_76 : decode cX5_looks 76 = .ok (.getfield 73, 3) := by decide +kernel
theorem dX5_looks_79 : decode cX5_looks 79 = .ok (.iload_n 2, 1) := by decide +kernel
theorem dX5_looks_80 : decode cX5_looks 80 = .ok (.iaload, 1) := by decide +kernel
theorem dX5_looks_81 : decode cX5_looks 81 = .ok (.invokevirtual 203, 3) := by decide +kernel
theorem dX5_looks_84 : decode cX5_looks 84 = .ok (.goto 4, 3) := by decide +kernel
theorem dX5_looks_87 : decode cX5_looks 87 = .ok (.iconst 0, 1) := by decide +kernel
theorem dX5_looks_88 : decode cX5_looks 88 = .ok (.iastore, 1) := by decide +kernel
theorem dX5_looks_89 : decode cX5_looks 89 = .ok (.iinc 2 1, 3) := by decide +kernel
theorem dX5_looks_92 : decode cX5_looks 92 = .ok (.goto (-66), 3) := by decide +kernel
theorem dX5_looks_95 : decode cX5_looks 95 = .ok (.aload_n 0, 1) := by decide +kernel
theorem dX5_looks_96 : decode cX5_looks 96 = .ok (.getfield 200, 3) := by decide +kernel
theorem dX5_looks_99 : decode cX5_looks 99 = .ok (.ifCond .ne 7, 3) := by decide +kernel
theorem dX5_looks_102 : decode cX5_looks 102 = .ok (.iconst 1, 1) := by decide +kernel
theorem dX5_looks_103 : decode cX5_looks 103 = .ok (.goto 4, 3) := by decide +kernel
theorem dX5_looks_106 : decode cX5_looks 106 = .ok (.iconst 0, 1) := by decide +kernel
theorem dX5_looks_107 : decode cX5_looks 107 = .ok (.istore_n 1, 1) := by decide +kernel
theorem dX5_looks_108 : decode cX5_looks 108 = .ok (.iconst 0, 1) := by decide +kernel
theorem dX5_looks_109 : decode cX5_looks 109 = .ok (.istore_n 2, 1) := by decide +kernel
theorem dX5_looks_110 : decode cX5_looks 110 = .ok (.iload_n 2, 1) := by decide +kernel
theorem dX5_looks_111 : decode cX5_looks 111 = .ok (.bipush 10, 2) := by decide +kernel
theorem dX5_looks_113 : decode cX5_looks 113 = .ok (.if_icmp .ge 32, 3) := by decide +kernel
theorem dX5_looks_116 : decode cX5_looks 116 = .ok (.iload_n 1, 1) := by decide +kernel
theorem dX5_looks_117 : decode cX5_looks 117 = .ok (.aload_n 0, 1) := by decide +kernel
theorem dX5_looks_118 : decode cX5_looks 118 = .ok (.getfield 61, 3) := by decide +kernel
theorem dX5_looks_121 : decode cX5_looks 121 = .ok (.iload_n 2, 1) := by decide +kernel
theorem dX5_looks_122 : decode cX5_looks 122 = .ok (.iaload, 1) := by decide +kernel
theorem dX5_looks_123 : decode cX5_looks 123 = .ok (.aload_n 0, 1) := by decide +kernel
theorem dX5_looks_124 : decode cX5_looks 124 = .ok (.getfield 64, 3) := by decide +kernel
theorem dX5_looks_127 : decode cX5_looks 127 = .ok (.iload_n 2, 1) := by decide +kernel
theorem dX5_looks_128 : decode cX5_looks 128 = .ok (.iaload, 1) := by decide +kernel
theorem dX5_looks_129 : decode cX5_looks 129 = .ok (.if_icmp .eq 7, 3) := by decide +kernel
theorem dX5_looks_132 : decode cX5_looks 132 = .ok (.iconst 1, 1) := by decide +kernel
theorem dX5_looks_133 : decode cX5_looks 133 = .ok (.goto 4, 3) := by decide +kernel
theorem dX5_looks_136 : decode cX5_looks 136 = .ok (.iconst 0, 1) := by decide +kernel
theorem dX5_looks_137 : decode cX5_looks 137 = .ok (.ior, 1) := by decide +kernel
theorem dX5_looks_138 : decode cX5_looks 138 = .ok (.istore_n 1, 1) := by decide +kernel
theorem dX5_looks_139 : decode cX5_looks 139 = .ok (.iinc 2 1, 3) := by decide +kernel
theorem dX5_looks_142 : decode cX5_looks 142 = .ok (.goto (-32), 3) := by decide +kernel
theorem dX5_looks_145 : decode cX5_looks 145 = .ok (.aload_n 0, 1) := by decide +kernel
theorem dX5_looks_146 : decode cX5_looks 146 = .ok (.dup, 1) := by decide +kernel
theorem dX5_looks_147 : decode cX5_looks 147 = .ok (.getfield 200, 3) := by decide +kernel
theorem dX5_looks_150 : decode cX5_looks 150 = .ok (.iconst 1, 1) := by decide +kernel
theorem dX5_looks_151 : decode cX5_looks 151 = .ok (.iadd, 1) := by decide +kernel
theorem dX5_looks_152 : decode cX5_looks 152 = .ok (.putfield 200, 3) := by decide +kernel
theorem dX5_looks_155 : decode cX5_looks 155 = .ok (.aload_n 0, 1) := by decide +kernel
theorem dX5_looks_156 : decode cX5_looks 156 = .ok (.invokevirtual 206, 3) := by decide +kernel
theorem dX5_looks_159 : decode cX5_looks 159 = .ok (.aload_n 0, 1) := by decide +kernel
theorem dX5_looks_160 : decode cX5_looks 160 = .ok (.invokevirtual 209, 3) := by decide +kernel
theorem dX5_looks_163 : decode cX5_looks 163 = .ok (.goto (-152), 3) := by decide +kernel
theorem dX5_looks_166 : decode cX5_looks 166 = .ok (.return_, 1) := by decide +kernel
theorem dX5_made_0 : decode cX5_made 0 = .ok (.aload_n 0, 1) := by decide +kernel
theorem dX5_made_1 : decode cX5_made 1 = .ok (.getfield 67, 3) := by decide +kernel
theorem dX5_made_4 : decode cX5_made 4 = .ok (.iconst 0, 1) := by decide +kernel
theorem dX5_made_5 : decode cX5_made 5 = .ok (.laload, 1) := by decide +kernel
theorem dX5_made_6 : decode cX5_made 6 = .ok (.aload_n 0, 1) := by decide +kernel
theorem dX5_made_7 : decode cX5_made 7 = .ok (.getfield 9, 3) := by decide +kernel
theorem dX5_made_10 : decode cX5_made 10 = .ok (.iconst 0, 1) := by decide +kernel
theorem dX5_made_11 : decode cX5_made 11 = .ok (.iaload, 1) := by decide +kernel
theorem dX5_made_12 : decode cX5_made 12 = .ok (.aload_n 0, 1) := by decide +kernel
theorem dX5_made_13 : decode cX5_made 13 = .ok (.getfield 76, 3) := by decide +kernel
theorem dX5_made_16 : decode cX5_made 16 = .ok (.iconst 0, 1) := by decide +kernel
theorem dX5_made_17 : decode cX5_made 17 = .ok (.iaload, 1) := by decide +kernel
theorem dX5_made_18 : decode cX5_made 18 = .ok (.isub, 1) := by decide +kernel
theorem dX5_made_19 : decode cX5_made 19 = .ok (.i2l, 1) := by decide +kernel
theorem dX5_made_20 : decode cX5_made 20 = .ok (.lmul, 1) := by decide +kernel
theorem dX5_made_21 : decode cX5_made 21 = .ok (.lreturn, 1) := by decide +kernel
theorem dX5_heat_0 : decode cX5_heat 0 = .ok (.aload_n 0, 1) := by decide +kernel
theorem dX5_heat_1 : decode cX5_heat 1 = .ok (.iload_n 1, 1) := by decide +kernel
theorem dX5_heat_2 : decode cX5_heat 2 = .ok (.invokevirtual 180, 3) := by decide +kernel
theorem dX5_heat_5 : decode cX5_heat 5 = .ok (.ifCond .eq 36, 3) := by decide +kernel
theorem dX5_heat_8 : decode cX5_heat 8 = .ok (.aload_n 0, 1) := by decide +kernel
theorem dX5_heat_9 : decode cX5_heat 9 = .ok (.getfield 61, 3) := by decide +kernel
theorem dX5_heat_12 : decode cX5_heat 12 = .ok (.iload_n 1, 1) := by decide +kernel
theorem dX5_heat_13 : decode cX5_heat 13 = .ok (.iaload, 1) := by decide +kernel
theorem dX5_heat_14 : decode cX5_heat 14 = .ok (.i2l, 1) := by decide +kernel
theorem dX5_heat_15 : decode cX5_heat 15 = .ok (.aload_n 0, 1) := by decide +kernel
theorem dX5_heat_16 : decode cX5_heat 16 = .ok (.getfield 73, 3) := by decide +kernel
theorem dX5_heat_19 : decode cX5_heat 19 = .ok (.iload_n 1, 1) := by decide +kernel
theorem dX5_heat_20 : decode cX5_heat 20 = .ok (.iaload, 1) := by decide +kernel
theorem dX5_heat_21 : decode cX5_heat 21 = .ok (.aload_n 0, 1) := by decide +kernel
theorem dX5_heat_22 : decode cX5_heat 22 = .ok (.getfield 9, 3) := by decide +kernel
theorem dX5_heat_25 : decode cX5_heat 25 = .ok (.bipush 48, 2) := by decide +kernel
theorem dX5_heat_27 : decode cX5_heat 27 = .ok (.bipush 6, 2) := by decide +kernel
theorem dX5_heat_29 : decode cX5_heat 29 = .ok (.iload_n 1, 1) := by decide +kernel
theorem dX5_heat_30 : decode cX5_heat 30 = .ok (.imul, 1) := by decide +kernel
theorem dX5_heat_31 : decode cX5_heat 31 = .ok (.iadd, 1) := by decide +kernel
theorem dX5_heat_32 : decode cX5_heat 32 = .ok (.iconst 2, 1) := by decide +kernel
theorem dX5_heat_33 : decode cX5_heat 33 = .ok (.iadd, 1) := by decide +kernel
theorem dX5_heat_34 : decode cX5_heat 34 = .ok (.iaload, 1) := by decide +kernel
theorem dX5_heat_35 : decode cX5_heat 35 = .ok (.isub, 1) := by decide +kernel
theorem dX5_heat_36 : decode cX5_heat 36 = .ok (.i2l, 1) := by decide +kernel
theorem dX5_heat_37 : decode cX5_heat 37 = .ok (.lmul, 1) := by decide +kernel
theorem dX5_heat_38 : decode cX5_heat 38 = .ok (.goto 4, 3) := by decide +kernel
theorem dX5_heat_41 : decode cX5_heat 41 = .ok (.lconst 0, 1) := by decide +kernel
theorem dX5_heat_42 : decode cX5_heat 42 = .ok (.lreturn, 1) := by decide +kernel
theorem dX5_allHeat_0 : decode cX5_allHeat 0 = .ok (.lconst 0, 1) := by decide +kernel
theorem dX5_allHeat_1 : decode cX5_allHeat 1 = .ok (.lstore_n 1, 1) := by decide +kernel
theorem dX5_allHeat_2 : decode cX5_allHeat 2 = .ok (.iconst 0, 1) := by decide +kernel
theorem dX5_allHeat_3 : decode cX5_allHeat 3 = .ok (.istore_n 3, 1) := by decide +kernel
theorem dX5_allHeat_4 : decode cX5_allHeat 4 = .ok (.iload_n 3, 1) := by decide +kernel
theorem dX5_allHeat_5 : decode cX5_allHeat 5 = .ok (.bipush 10, 2) := by decide +kernel
theorem dX5_allHeat_7 : decode cX5_allHeat 7 = .ok (.if_icmp .ge 17, 3) := by decide +kernel
theorem dX5_allHeat_10 : decode cX5_allHeat 10 = .ok (.lload_n 1, 1) := by decide +kernel
theorem dX5_allHeat_11 : decode cX5_allHeat 11 = .ok (.aload_n 0, 1) := by decide +kernel
theorem dX5_allHeat_12 : decode cX5_allHeat 12 = .ok (.iload_n 3, 1) := by decide +kernel
theorem dX5_allHeat_13 : decode cX5_allHeat 13 = .ok (.invokevirtual 212, 3) := by decide +kernel
theorem dX5_allHeat_16 : decode cX5_allHeat 16 = .ok (.ladd, 1) := by decide +kernel
theorem dX5_allHeat_17 : decode cX5_allHeat 17 = .ok (.lstore_n 1, 1) := by decide +kernel
theorem dX5_allHeat_18 : decode cX5_allHeat 18 = .ok (.iinc 3 1, 3) := by decide +kernel
theorem dX5_allHeat_21 : decode cX5_allHeat 21 = .ok (.goto (-17), 3) := by decide +kernel
theorem dX5_allHeat_24 : decode cX5_allHeat 24 = .ok (.lload_n 1, 1) := by decide +kernel
theorem dX5_allHeat_25 : decode cX5_allHeat 25 = .ok (.lreturn, 1) := by decide +kernel
theorem dX5_loses_0 : decode cX5_loses 0 = .ok (.aload_n 0, 1) := by decide +kernel
theorem dX5_loses_1 : decode cX5_loses 1 = .ok (.getfield 70, 3) := by decide +kernel
theorem dX5_loses_4 : decode cX5_loses 4 = .ok (.iload_n 1, 1) := by decide +kernel
theorem dX5_loses_5 : decode cX5_loses 5 = .ok (.iaload, 1) := by decide +kernel
theorem dX5_loses_6 : decode cX5_loses 6 = .ok (.ifCond .ne 5, 3) := by decide +kernel
theorem dX5_loses_9 : decode cX5_loses 9 = .ok (.lconst 0, 1) := by decide +kernel
theorem dX5_loses_10 : decode cX5_loses 10 = .ok (.lreturn, 1) := by decide +kernel
theorem dX5_loses_11 : decode cX5_loses 11 = .ok (.aload_n 0, 1) := by decide +kernel
theorem dX5_loses_12 : decode cX5_loses 12 = .ok (.getfield 73, 3) := by decide +kernel
theorem dX5_loses_15 : decode cX5_loses 15 = .ok (.aload_n 0, 1) := by decide +kernel
theorem dX5_loses_16 : decode cX5_loses 16 = .ok (.iload_n 1, 1) := by decide +kernel
theorem dX5_loses_17 : decode cX5_loses 17 = .ok (.invokevirtual 174, 3) := by decide +kernel
theorem dX5_loses_20 : decode cX5_loses 20 = .ok (.iaload, 1) := by decide +kernel
theorem dX5_loses_21 : decode cX5_loses 21 = .ok (.istore_n 2, 1) := by decide +kernel
theorem dX5_loses_22 : decode cX5_loses 22 = .ok (.aload_n 0, 1) := by decide +kernel
theorem dX5_loses_23 : decode cX5_loses 23 = .ok (.getfield 76, 3) := by decide +kernel
theorem dX5_loses_26 : decode cX5_loses 26 = .ok (.aload_n 0, 1) := by decide +kernel
theorem dX5_loses_27 : decode cX5_loses 27 = .ok (.iload_n 1, 1) := by decide +kernel
theorem dX5_loses_28 : decode cX5_loses 28 = .ok (.invokevirtual 177, 3) := by decide +kernel
theorem dX5_loses_31 : decode cX5_loses 31 = .ok (.iaload, 1) := by decide +kernel
theorem dX5_loses_32 : decode cX5_loses 32 = .ok (.istore_n 3, 1) := by decide +kernel
theorem dX5_loses_33 : decode cX5_loses 33 = .ok (.aload_n 0, 1) := by decide +kernel
theorem dX5_loses_34 : decode cX5_loses 34 = .ok (.getfield 70, 3) := by decide +kernel
theorem dX5_loses_37 : decode cX5_loses 37 = .ok (.iload_n 1, 1) := by decide +kernel
theorem dX5_loses_38 : decode cX5_loses 38 = .ok (.iaload, 1) := by decide +kernel
theorem dX5_loses_39 : decode cX5_loses 39 = .ok (.invokestatic 166, 3) := by decide +kernel
theorem dX5_loses_42 : decode cX5_loses 42 = .ok (.i2l, 1) := by decide +kernel
theorem dX5_loses_43 : decode cX5_loses 43 = .ok (.iload_n 2, 1) := by decide +kernel
theorem dX5_loses_44 : decode cX5_loses 44 = .ok (.aload_n 0, 1) := by decide +kernel
theorem dX5_loses_45 : decode cX5_loses 45 = .ok (.iload_n 1, 1) := by decide +kernel
theorem dX5_loses_46 : decode cX5_loses 46 = .ok (.iload_n 2, 1) := by decide +kernel
theorem dX5_loses_47 : decode cX5_loses 47 = .ok (.invokevirtual 183, 3) := by decide +kernel
theorem dX5_loses_50 : decode cX5_loses 50 = .ok (.isub, 1) := by decide +kernel
theorem dX5_loses_51 : decode cX5_loses 51 = .ok (.iload_n 3, 1) := by decide +kernel
theorem dX5_loses_52 : decode cX5_loses 52 = .ok (.iadd, 1) := by decide +kernel
theorem dX5_loses_53 : decode cX5_loses 53 = .ok (.aload_n 0, 1) := by decide +kernel
theorem dX5_loses_54 : decode cX5_loses 54 = .ok (.iload_n 1, 1) := by decide +kernel
theorem dX5_loses_55 : decode cX5_loses 55 = .ok (.iload_n 3, 1) := by decide +kernel
theorem dX5_loses_56 : decode cX5_loses 56 = .ok (.invokevirtual 183, 3) := by decide +kernel
theorem dX5_loses_59 : decode cX5_loses 59 = .ok (.isub, 1) := by decide +kernel
theorem dX5_loses_60 : decode cX5_loses 60 = .ok (.i2l, 1) := by decide +kernel
theorem dX5_loses_61 : decode cX5_loses 61 = .ok (.lmul, 1) := by decide +kernel
theorem dX5_loses_62 : decode cX5_loses 62 = .ok (.lreturn, 1) := by decide +kernel
theorem dX5_tariff_0 : decode cX5_tariff 0 = .ok (.iconst 0, 1) := by decide +kernel
theorem dX5_tariff_1 : decode cX5_tariff 1 = .ok (.aload_n 0, 1) := by decide +kernel
theorem dX5_tariff_2 : decode cX5_tariff 2 = .ok (.getfield 9, 3) := by decide +kernel
theorem dX5_tariff_5 : decode cX5_tariff 5 = .ok (.iconst 5, 1) := by decide +kernel
theorem dX5_tariff_6 : decode cX5_tariff 6 = .ok (.iaload, 1) := by decide +kernel
theorem dX5_tariff_7 : decode cX5_tariff 7 = .ok (.aload_n 0, 1) := by decide +kernel
theorem dX5_tariff_8 : decode cX5_tariff 8 = .ok (.getfield 9, 3) := by decide +kernel
theorem dX5_tariff_11 : decode cX5_tariff 11 = .ok (.bipush 6, 2) := by decide +kernel
theorem dX5_tariff_13 : decode cX5_tariff 13 = .ok (.iaload, 1) := by decide +kernel
theorem dX5_tariff_14 : decode cX5_tariff 14 = .ok (.aload_n 0, 1) := by decide +kernel
theorem dX5_tariff_15 : decode cX5_tariff 15 = .ok (.getfield 9, 3) := by decide +kernel
theorem dX5_tariff_18 : decode cX5_tariff 18 = .ok (.bipush 48, 2) := by decide +kernel
theorem dX5_tariff_20 : decode cX5_tariff 20 = .ok (.bipush 6, 2) := by decide +kernel
theorem dX5_tariff_22 : decode cX5_tariff 22 = .ok (.iload_n 1, 1) := by decide +kernel
theorem dX5_tariff_23 : decode cX5_tariff 23 = .ok (.imul, 1) := by decide +kernel
theorem dX5_tariff_24 : decode cX5_tariff 24 = .ok (.iadd, 1) := by decide +kernel
theorem dX5_tariff_25 : decode cX5_tariff 25 = .ok (.iconst 2, 1) := by decide +kernel
theorem dX5_tariff_26 : decode cX5_tariff 26 = .ok (.iadd, 1) := by decide +kernel
theorem dX5_tariff_27 : decode cX5_tariff 27 = .ok (.iaload, 1) := by decide +kernel
theorem dX5_tariff_28 : decode cX5_tariff 28 = .ok (.sipush 400, 3) := by decide +kernel
theorem dX5_tariff_31 : decode cX5_tariff 31 = .ok (.isub, 1) := by decide +kernel
theorem dX5_tariff_32 : decode cX5_tariff 32 = .ok (.imul, 1) := by decide +kernel
theorem dX5_tariff_33 : decode cX5_tariff 33 = .ok (.bipush 10, 2) := by decide +kernel
theorem dX5_tariff_35 : decode cX5_tariff 35 = .ok (.invokestatic 215, 3) := by decide +kernel
theorem dX5_tariff_38 : decode cX5_tariff 38 = .ok (.iadd, 1) := by decide +kernel
theorem dX5_tariff_39 : decode cX5_tariff 39 = .ok (.invokestatic 124, 3) := by decide +kernel
theorem dX5_tariff_42 : decode cX5_tariff 42 = .ok (.ireturn, 1) := by decide +kernel
theorem dX5_counts_0 : decode cX5_counts 0 = .ok (.aload_n 0, 1) := by decide +kernel
theorem dX5_counts_1 : decode cX5_counts 1 = .ok (.getfield 9, 3) := by decide +kernel
theorem dX5_counts_4 : decode cX5_counts 4 = .ok (.bipush 48, 2) := by decide +kernel
theorem dX5_counts_6 : decode cX5_counts 6 = .ok (.bipush 6, 2) := by decide +kernel
theorem dX5_counts_8 : decode cX5_counts 8 = .ok (.iload_n 1, 1) := by decide +kernel
theorem dX5_counts_9 : decode cX5_counts 9 = .ok (.imul, 1) := by decide +kernel
theorem dX5_counts_10 : decode cX5_counts 10 = .ok (.iadd, 1) := by decide +kernel
theorem dX5_counts_11 : decode cX5_counts 11 = .ok (.iconst 4, 1) := by decide +kernel
theorem dX5_counts_12 : decode cX5_counts 12 = .ok (.iadd, 1) := by decide +kernel
theorem dX5_counts_13 : decode cX5_counts 13 = .ok (.iaload, 1) := by decide +kernel
theorem dX5_counts_14 : decode cX5_counts 14 = .ok (.istore_n 2, 1) := by decide +kernel
theorem dX5_counts_15 : decode cX5_counts 15 = .ok (.iload_n 2, 1) := by decide +kernel
theorem dX5_counts_16 : decode cX5_counts 16 = .ok (.ifCond .ne 11, 3) := by decide +kernel
theorem dX5_counts_19 : decode cX5_counts 19 = .ok (.aload_n 0, 1) := by decide +kernel
theorem dX5_counts_20 : decode cX5_counts 20 = .ok (.iload_n 1, 1) := by decide +kernel
theorem dX5_counts_21 : decode cX5_counts 21 = .ok (.invokevirtual 212, 3) := by decide +kernel
theorem dX5_counts_24 : decode cX5_counts 24 = .ok (.goto 39, 3) := by decide +kernel
theorem dX5_counts_27 : decode cX5_counts 27 = .ok (.iload_n 2, 1) := by decide +kernel
theorem dX5_counts_28 : decode cX5_counts 28 = .ok (.iconst 1, 1) := by decide +kernel
theorem dX5_counts_29 : decode cX5_counts 29 = .ok (.if_icmp .ne 7, 3) := by decide +kernel
theorem dX5_counts_32 : decode cX5_counts 32 = .ok (.lconst 0, 1) := by decide +kernel
theorem dX5_counts_33 : decode cX5_counts 33 = .ok (.goto 30, 3) := by decide +kernel
theorem dX5_counts_36 : decode cX5_counts 36 = .ok (.aload_n 0, 1) := by decide +kernel
theorem dX5_counts_37 : decode cX5_counts 37 = .ok (.iload_n 1, 1) := by decide +kernel
theorem dX5_counts_38 : decode cX5_counts 38 = .ok (.invokevirtual 212, 3) := by decide +kernel
theorem dX5_counts_41 : decode cX5_counts 41 = .ok (.aload_n 0, 1) := by decide +kernel
theorem dX5_counts_42 : decode cX5_counts 42 = .ok (.getfield 9, 3) := by decide +kernel
theorem dX5_counts_45 : decode cX5_counts 45 = .ok (.bipush 48, 2) := by decide +kernel
theorem dX5_counts_47 : decode cX5_counts 47 = .ok (.bipush 6, 2) := by decide +kernel
theorem dX5_counts_49 : decode cX5_counts 49 = .ok (.iload_n 1, 1) := by decide +kernel
theorem dX5_counts_50 : decode cX5_counts 50 = .ok (.imul, 1) := by decide +kernel
theorem dX5_counts_51 : decode cX5_counts 51 = .ok (.iadd, 1) := by decide +kernel
theorem dX5_counts_52 : decode cX5_counts 52 = .ok (.iconst 5, 1) := by decide +kernel
theorem dX5_counts_53 : decode cX5_counts 53 = .ok (.iadd, 1) := by decide +kernel
theorem dX5_counts_54 : decode cX5_counts 54 = .ok (.iaload, 1) := by decide +kernel
theorem dX5_counts_55 : decode cX5_counts 55 = .ok (.i2l, 1) := by decide +kernel
theorem dX5_counts_56 : decode cX5_counts 56 = .ok (.lmul, 1) := by decide +kernel
theorem dX5_counts_57 : decode cX5_counts 57 = .ok (.ldc2_w 217, 3) := by decide +kernel
theorem dX5_counts_60 : decode cX5_counts 60 = .ok (.invokestatic 170, 3) := by decide +kernel
theorem dX5_counts_63 : decode cX5_counts 63 = .ok (.lreturn, 1) := by decide +kernel
theorem dX5_pays_0 : decode cX5_pays 0 = .ok (.aload_n 0, 1) := by decide +kernel
theorem dX5_pays_1 : decode cX5_pays 1 = .ok (.iload_n 1, 1) := by decide +kernel
theorem dX5_pays_2 : decode cX5_pays 2 = .ok (.invokevirtual 219, 3) := by decide +kernel
theorem dX5_pays_5 : decode cX5_pays 5 = .ok (.aload_n 0, 1) := by decide +kernel
theorem dX5_pays_6 : decode cX5_pays 6 = .ok (.iload_n 1, 1) := by decide +kernel
theorem dX5_pays_7 : decode cX5_pays 7 = .ok (.invokevirtual 222, 3) := by decide +kernel
theorem dX5_pays_10 : decode cX5_pays 10 = .ok (.i2l, 1) := by decide +kernel
theorem dX5_pays_11 : decode cX5_pays 11 = .ok (.lmul, 1) := by decide +kernel
theorem dX5_pays_12 : decode cX5_pays 12 = .ok (.ldc2_w 217, 3) := by decide +kernel
theorem dX5_pays_15 : decode cX5_pays 15 = .ok (.invokestatic 170, 3) := by decide +kernel
theorem dX5_pays_18 : decode cX5_pays 18 = .ok (.lreturn, 1) := by decide +kernel
theorem dX5_headOf_0 : decode cX5_headOf 0 = .ok (.lconst 0, 1) := by decide +kernel
theorem dX5_headOf_1 : decode cX5_headOf 1 = .ok (.lstore_n 2, 1) := by decide +kernel
theorem dX5_headOf_2 : decode cX5_headOf 2 = .ok (.iload_n 1, 1) := by decide +kernel
theorem dX5_headOf_3 : decode cX5_headOf 3 = .ok (.istore 4, 2) := by decide +kernel
theorem dX5_headOf_5 : decode cX5_headOf 5 = .ok (.iload 4, 2) := by decide +kernel
theorem dX5_headOf_7 : decode cX5_headOf 7 = .ok (.ifCond .eq 271, 3) := by decide +kernel
theorem dX5_headOf_10 : decode cX5_headOf 10 = .ok (.iconst 0, 1) := by decide +kernel
theorem dX5_headOf_11 : decode cX5_headOf 11 = .ok (.istore 5, 2) := by decide +kernel
theorem dX5_headOf_13 : decode cX5_headOf 13 = .ok (.iload 5, 2) := by decide +kernel
theorem dX5_headOf_15 : decode cX5_headOf 15 = .ok (.aload_n 0, 1) := by decide +kernel
theorem dX5_headOf_16 : decode cX5_headOf 16 = .ok (.getfield 121, 3) := by decide +kernel
theorem dX5_headOf_19 : decode cX5_headOf 19 = .ok (.if_icmp .ge 21, 3) := by decide +kernel
theorem dX5_headOf_22 : decode cX5_headOf 22 = .ok (.aload_n 0, 1) := by decide +kernel
theorem dX5_headOf_23 : decode cX5_headOf 23 = .ok (.getfield 55, 3) := by decide +kernel
theorem dX5_headOf_26 : decode cX5_headOf 26 = .ok (.iload 5, 2) := by decide +kernel
theorem dX5_headOf_28 : decode cX5_headOf 28 = .ok (.iaload, 1) := by decide +kernel
theorem dX5_headOf_29 : decode cX5_headOf 29 = .ok (.iload 4, 2) := by decide +kernel
theorem dX5_headOf_31 : decode cX5_headOf 31 = .ok (.if_icmp .eq 9, 3) := by decide +kernel
theorem dX5_headOf_34 : decode cX5_headOf 34 = .ok (.iinc 5 1, 3) := by decide +kernel
theorem dX5_headOf_37 : decode cX5_headOf 37 = .ok (.goto (-24), 3) := by decide +kernel
theorem dX5_headOf_40 : decode cX5_headOf 40 = .ok (.iload 5, 2) := by decide +kernel
theorem dX5_headOf_42 : decode cX5_headOf 42 = .ok (.ifCond .le 105, 3) := by decide +kernel
theorem dX5_headOf_45 : decode cX5_headOf 45 = .ok (.iload 5, 2) := by decide +kernel
theorem dX5_headOf_47 : decode cX5_headOf 47 = .ok (.aload_n 0, 1) := by decide +kernel
theorem dX5_headOf_48 : decode cX5_headOf 48 = .ok (.getfield 121, 3) := by decide +kernel
theorem dX5_headOf_51 : decode cX5_headOf 51 = .ok (.if_icmp .ge 96, 3) := by decide +kernel
theorem dX5_headOf_54 : decode cX5_headOf 54 = .ok (.iconst 0, 1) := by decide +kernel
theorem dX5_headOf_55 : decode cX5_headOf 55 = .ok (.istore 6, 2) := by decide +kernel
theorem dX5_headOf_57 : decode cX5_headOf 57 = .ok (.iload 6, 2) := by decide +kernel
theorem dX5_headOf_59 : decode cX5_headOf 59 = .ok (.iload 5, 2) := by decide +kernel
theorem dX5_headOf_61 : decode cX5_headOf 61 = .ok (.if_icmp .ge 75, 3) := by decide +kernel
theorem dX5_headOf_64 : decode cX5_headOf 64 = .ok (.lload_n 2, 1) := by decide +kernel
theorem dX5_headOf_65 : decode cX5_headOf 65 = .ok (.aload_n 0, 1) := by decide +kernel
theorem dX5_headOf_66 : decode cX5_headOf 66 = .ok (.aload_n 0, 1) := by decide +kernel
theorem dX5_headOf_67 : decode cX5_headOf 67 = .ok (.getfield 58, 3) := by decide +kernel
theorem dX5_headOf_70 : decode cX5_headOf 70 = .ok (.iload 6, 2) := by decide +kernel
theorem dX5_headOf_72 : decode cX5_headOf 72 = .ok (.iaload, 1) := by decide +kernel
theorem dX5_headOf_73 : decode cX5_headOf 73 = .ok (.aload_n 0, 1) := by decide +kernel
theorem dX5_headOf_74 : decode cX5_headOf 74 = .ok (.aload_n 0, 1) := by decide +kernel
theorem dX5_headOf_75 : decode cX5_headOf 75 = .ok (.getfield 58, 3) := by decide +kernel
theorem dX5_headOf_78 : decode cX5_headOf 78 = .ok (.iload 6, 2) := by decide +kernel
theorem dX5_headOf_80 : decode cX5_headOf 80 = .ok (.iaload, 1) := by decide +kernel
theorem dX5_headOf_81 : decode cX5_headOf 81 = .ok (.iconst 0, 1) := by decide +kernel
theorem dX5_headOf_82 : decode cX5_headOf 82 = .ok (.invokevirtual 110, 3) := by decide +kernel
theorem dX5_headOf_85 : decode cX5_headOf 85 = .ok (.aload_n 0, 1) := by decide +kernel
theorem dX5_headOf_86 : decode cX5_headOf 86 = .ok (.getfield 55, 3) := by decide +kernel
theorem dX5_headOf_89 : decode cX5_headOf 89 = .ok (.iload 6, 2) := by decide +kernel
theorem dX5_headOf_91 : decode cX5_headOf 91 = .ok (.iaload, 1) := by decide +kernel
theorem dX5_headOf_92 : decode cX5_headOf 92 = .ok (.if_icmp .ne 19, 3) := by decide +kernel
theorem dX5_headOf_95 : decode cX5_headOf 95 = .ok (.aload_n 0, 1) := by decide +kernel
theorem dX5_headOf_96 : decode cX5_headOf 96 = .ok (.getfield 70, 3) := by decide +kernel
theorem dX5_headOf_99 : decode cX5_headOf 99 = .ok (.aload_n 0, 1) := by decide +kernel
theorem dX5_headOf_100 : decode cX5_headOf 100 = .ok (.getfield 58, 3) := by decide +kernel
theorem dX5_headOf_103 : decode cX5_headOf 103 = .ok (.iload 6, 2) := by decide +kernel
theorem dX5_headOf_105 : decode cX5_headOf 105 = .ok (.iaload, 1) := by decide +kernel
theorem dX5_headOf_106 : decode cX5_headOf 106 = .ok (.iaload, 1) := by decide +kernel
theorem dX5_headOf_107 : decode cX5_headOf 107 = .ok (.i2l, 1) := by decide +kernel
theorem dX5_headOf_108 : decode cX5_headOf 108 = .ok (.goto 17, 3) := by decide +kernel
theorem dX5_headOf_111 : decode cX5_headOf 111 = .ok (.aload_n 0, 1) := by decide +kernel
theorem dX5_headOf_112 : decode cX5_headOf 112 = .ok (.getfield 70, 3) := by decide +kernel
theorem dX5_headOf_115 : decode cX5_headOf 115 = .ok (.aload_n 0, 1) := by decide +kernel
theorem dX5_headOf_116 : decode cX5_headOf 116 = .ok (.getfield 58, 3) := by decide +kernel
theorem dX5_headOf_119 : decode cX5_headOf 119 = .ok (.iload 6, 2) := by decide +kernel
theorem dX5_headOf_121 : decode cX5_headOf 121 = .ok (.iaload, 1) := by decide +kernel
theorem dX5_headOf_122 : decode cX5_headOf 122 = .ok (.iaload, 1) := by decide +kernel
theorem dX5_headOf_123 : decode cX5_headOf 123 = .ok (.ineg, 1) := by decide +kernel
theorem dX5_headOf_124 : decode cX5_headOf 124 = .ok (.i2l, 1) := by decide +kernel
theorem dX5_headOf_125 : decode cX5_headOf 125 = .ok (.invokevirtual 143, 3) := by decide +kernel
theorem dX5_headOf_128 : decode cX5_headOf 128 = .ok (.ladd, 1) := by decide +kernel
theorem dX5_headOf_129 : decode cX5_headOf 129 = .ok (.lstore_n 2, 1) := by decide +kernel
theorem dX5_headOf_130 : decode cX5_headOf 130 = .ok (.iinc 6 1, 3) := by decide +kernel
theorem dX5_headOf_133 : decode cX5_headOf 133 = .ok (.goto (-76), 3) := by decide +kernel
theorem dX5_headOf_136 : decode cX5_headOf 136 = .ok (.aload_n 0, 1) := by decide +kernel
theorem dX5_headOf_137 : decode cX5_headOf 137 = .ok (.getfield 55, 3) := by decide +kernel
theorem dX5_headOf_140 : decode cX5_headOf 140 = .ok (.iconst 0, 1) := by decide +kernel
theorem dX5_headOf_141 : decode cX5_headOf 141 = .ok (.iaload, 1) := by decide +kernel
theorem dX5_headOf_142 : decode cX5_headOf 142 = .ok (.istore 4, 2) := by decide +kernel
theorem dX5_headOf_144 : decode cX5_headOf 144 = .ok (.goto (-139), 3) := by decide +kernel
theorem dX5_headOf_147 : decode cX5_headOf 147 = .ok (.iconst (-1), 1) := by decide +kernel
theorem dX5_headOf_148 : decode cX5_headOf 148 = .ok (.istore 6, 2) := by decide +kernel
theorem dX5_headOf_150 : decode cX5_headOf 150 = .ok (.iconst 0, 1) := by decide +kernel
theorem dX5_headOf_151 : decode cX5_headOf 151 = .ok (.istore 7, 2) := by decide +kernel
theorem dX5_headOf_153 : decode cX5_headOf 153 = .ok (.iload 7, 2) := by decide +kernel
theorem dX5_headOf_155 : decode cX5_headOf 155 = .ok (.aload_n 0, 1) := by decide +kernel
theorem dX5_headOf_156 : decode cX5_headOf 156 = .ok (.invokevirtual 106, 3) := by decide +kernel
theorem dX5_headOf_159 : decode cX5_headOf 159 = .ok (.if_icmp .ge 112, 3) := by decide +kernel
theorem dX5_headOf_162 : decode cX5_headOf 162 = .ok (.aload_n 0, 1) := by decide +kernel
theorem dX5_headOf_163 : decode cX5_headOf 163 = .ok (.iload 7, 2) := by decide +kernel
theorem dX5_headOf_165 : decode cX5_headOf 165 = .ok (.iload 4, 2) := by decide +kernel
theorem dX5_headOf_167 : decode cX5_headOf 167 = .ok (.invokevirtual 114, 3) := by decide +kernel
theorem dX5_headOf_170 : decode cX5_headOf 170 = .ok (.istore 8, 2) := by decide +kernel
theorem dX5_headOf_172 : decode cX5_headOf 172 = .ok (.iload 8, 2) := by decide +kernel
theorem dX5_headOf_174 : decode cX5_headOf 174 = .ok (.ifCond .lt 91, 3) := by decide +kernel
theorem dX5_headOf_177 : decode cX5_headOf 177 = .ok (.aload_n 0, 1) := by decide +kernel
theorem dX5_headOf_178 : decode cX5_headOf 178 = .ok (.iload 7, 2) := by decide +kernel
theorem dX5_headOf_180 : decode cX5_headOf 180 = .ok (.invokevirtual 135, 3) := by decide +kernel
theorem dX5_headOf_183 : decode cX5_headOf 183 = .ok (.ifCond .ne 82, 3) := by decide +kernel
theorem dX5_headOf_186 : decode cX5_headOf 186 = .ok (.aload_n 0, 1) := by decide +kernel
theorem dX5_headOf_187 : decode cX5_headOf 187 = .ok (.getfield 42, 3) := by decide +kernel
theorem dX5_headOf_190 : decode cX5_headOf 190 = .ok (.iload 8, 2) := by decide +kernel
theorem dX5_headOf_192 : decode cX5_headOf 192 = .ok (.iaload, 1) := by decide +kernel
theorem dX5_headOf_193 : decode cX5_headOf 193 = .ok (.aload_n 0, 1) := by decide +kernel
theorem dX5_headOf_194 : decode cX5_headOf 194 = .ok (.getfield 42, 3) := by decide +kernel
theorem dX5_headOf_197 : decode cX5_headOf 197 = .ok (.iload 4, 2) := by decide +kernel
theorem dX5_headOf_199 : decode cX5_headOf 199 = .ok (.iaload, 1) := by decide +kernel
theorem dX5_headOf_200 : decode cX5_headOf 200 = .ok (.if_icmp .lt 6, 3) := by decide +kernel
theorem dX5_headOf_203 : decode cX5_headOf 203 = .ok (.goto 62, 3) := by decide +kernel
theorem dX5_headOf_206 : decode cX5_headOf 206 = .ok (.iload 8, 2) := by decide +kernel
theorem dX5_headOf_208 : decode cX5_headOf 208 = .ok (.istore 6, 2) := by decide +kernel
theorem dX5_headOf_210 : decode cX5_headOf 210 = .ok (.lload_n 2, 1) := by decide +kernel
theorem dX5_headOf_211 : decode cX5_headOf 211 = .ok (.aload_n 0, 1) := by decide +kernel
theorem dX5_headOf_212 : decode cX5_headOf 212 = .ok (.iload 7, 2) := by decide +kernel
theorem dX5_headOf_214 : decode cX5_headOf 214 = .ok (.aload_n 0, 1) := by decide +kernel
theorem dX5_headOf_215 : decode cX5_headOf 215 = .ok (.getfield 70, 3) := by decide +kernel
theorem dX5_headOf_218 : decode cX5_headOf 218 = .ok (.iload 7, 2) := by decide +kernel
theorem dX5_headOf_220 : decode cX5_headOf 220 = .ok (.iaload, 1) := by decide +kernel
theorem dX5_headOf_221 : decode cX5_headOf 221 = .ok (.ifCond .ne 7, 3) := by decide +kernel
theorem dX5_headOf_224 : decode cX5_headOf 224 = .ok (.lconst 0, 1) := by decide +kernel
theorem dX5_headOf_225 : decode cX5_headOf 225 = .ok (.goto 35, 3) := by decide +kernel
theorem dX5_headOf_228 : decode cX5_headOf 228 = .ok (.aload_n 0, 1) := by decide +kernel
theorem dX5_headOf_229 : decode cX5_headOf 229 = .ok (.iload 7, 2) := by decide +kernel
theorem dX5_headOf_231 : decode cX5_headOf 231 = .ok (.iconst 0, 1) := by decide +kernel
theorem dX5_headOf_232 : decode cX5_headOf 232 = .ok (.invokevirtual 110, 3) := by decide +kernel
theorem dX5_headOf_235 : decode cX5_headOf 235 = .ok (.iload 8, 2) := by decide +kernel
theorem dX5_headOf_237 : decode cX5_headOf 237 = .ok (.if_icmp .ne 14, 3) := by decide +kernel
theorem dX5_headOf_240 : decode cX5_headOf 240 = .ok (.aload_n 0, 1) := by decide +kernel
theorem dX5_headOf_241 : decode cX5_headOf 241 = .ok (.getfield 70, 3) := by decide +kernel
theorem dX5_headOf_244 : decode cX5_headOf 244 = .ok (.iload 7, 2) := by decide +kernel
theorem dX5_headOf_246 : decode cX5_headOf 246 = .ok (.iaload, 1) := by decide +kernel
theorem dX5_headOf_247 : decode cX5_headOf 247 = .ok (.i2l, 1) := by decide +kernel
theorem dX5_headOf_248 : decode cX5_headOf 248 = .ok (.goto 12, 3) := by decide +kernel
theorem dX5_headOf_251 : decode cX5_headOf 251 = .ok (.aload_n 0, 1) := by decide +kernel
theorem dX5_headOf_252 : decode cX5_headOf 252 = .ok (.getfield 70, 3) := by decide +kernel
theorem dX5_headOf_255 : decode cX5_headOf 255 = .ok (.iload 7, 2) := by decide +kernel
theorem dX5_headOf_257 : decode cX5_headOf 257 = .ok (.iaload, 1) := by decide +kernel
theorem dX5_headOf_258 : decode cX5_headOf 258 = .ok (.ineg, 1) := by decide +kernel
theorem dX5_headOf_259 : decode cX5_headOf 259 = .ok (.i2l, 1) := by decide +kernel
theorem dX5_headOf_260 : decode cX5_headOf 260 = .ok (.invokevirtual 143, 3) := by decide +kernel
theorem dX5_headOf_263 : decode cX5_headOf 263 = .ok (.ladd, 1) := by decide +kernel
theorem dX5_headOf_264 : decode cX5_headOf 264 = .ok (.lstore_n 2, 1) := by decide +kernel
theorem dX5_headOf_265 : decode cX5_headOf 265 = .ok (.iinc 7 1, 3) := by decide +kernel
theorem dX5_headOf_268 : decode cX5_headOf 268 = .ok (.goto (-115), 3) := by decide +kernel
theorem dX5_headOf_271 : decode cX5_headOf 271 = .ok (.iload 6, 2) := by decide +kernel
theorem dX5_headOf_273 : decode cX5_headOf 273 = .ok (.istore 4, 2) := by decide +kernel
theorem dX5_headOf_275 : decode cX5_headOf 275 = .ok (.goto (-270), 3) := by decide +kernel
theorem dX5_headOf_278 : decode cX5_headOf 278 = .ok (.lload_n 2, 1) := by decide +kernel
theorem dX5_headOf_279 : decode cX5_headOf 279 = .ok (.lreturn, 1) := by decide +kernel
theorem dX5_needed_0 : decode cX5_needed 0 = .ok (.lconst 0, 1) := by decide +kernel
theorem dX5_needed_1 : decode cX5_needed 1 = .ok (.lstore_n 1, 1) := by decide +kernel
theorem dX5_needed_2 : decode cX5_needed 2 = .ok (.iconst 0, 1) := by decide +kernel
theorem dX5_needed_3 : decode cX5_needed 3 = .ok (.istore_n 3, 1) := by decide +kernel
theorem dX5_needed_4 : decode cX5_needed 4 = .ok (.iconst 1, 1) := by decide +kernel
theorem dX5_needed_5 : decode cX5_needed 5 = .ok (.istore 4, 2) := by decide +kernel
theorem dX5_needed_7 : decode cX5_needed 7 = .ok (.iload 4, 2) := by decide +kernel
theorem dX5_needed_9 : decode cX5_needed 9 = .ok (.bipush 10, 2) := by decide +kernel
theorem dX5_needed_11 : decode cX5_needed 11 = .ok (.if_icmp .ge 55, 3) := by decide +kernel
theorem dX5_needed_14 : decode cX5_needed 14 = .ok (.aload_n 0, 1) := by decide +kernel
theorem dX5_needed_15 : decode cX5_needed 15 = .ok (.iload 4, 2) := by decide +kernel
theorem dX5_needed_17 : decode cX5_needed 17 = .ok (.invokevirtual 180, 3) := by decide +kernel
theorem dX5_needed_20 : decode cX5_needed 20 = .ok (.ifCond .eq 40, 3) := by decide +kernel
theorem dX5_needed_23 : decode cX5_needed 23 = .ok (.aload_n 0, 1) := by decide +kernel
theorem dX5_needed_24 : decode cX5_needed 24 = .ok (.getfield 61, 3) := by decide +kernel
theorem dX5_needed_27 : decode cX5_needed 27 = .ok (.iload 4, 2) := by decide +kernel
theorem dX5_needed_29 : decode cX5_needed 29 = .ok (.iaload, 1) := by decide +kernel
theorem dX5_needed_30 : decode cX5_needed 30 = .ok (.ifCond .ne 6, 3) := by decide +kernel
theorem dX5_needed_33 : decode cX5_needed 33 = .ok (.goto 27, 3) := by decide +kernel
theorem dX5_needed_36 : decode cX5_needed 36 = .ok (.aload_n 0, 1) := by decide +kernel
theorem dX5_needed_37 : decode cX5_needed 37 = .ok (.iload 4, 2) := by decide +kernel
theorem dX5_needed_39 : decode cX5_needed 39 = .ok (.invokevirtual 225, 3) := by decide +kernel
theorem dX5_needed_42 : decode cX5_needed 42 = .ok (.lstore 5, 2) := by decide +kernel
theorem dX5_needed_44 : decode cX5_needed 44 = .ok (.iload_n 3, 1) := by decide +kernel
theorem dX5_needed_45 : decode cX5_needed 45 = .ok (.ifCond .eq 10, 3) := by decide +kernel
theorem dX5_needed_48 : decode cX5_needed 48 = .ok (.lload 5, 2) := by decide +kernel
theorem dX5_needed_50 : decode cX5_needed 50 = .ok (.lload_n 1, 1) := by decide +kernel
theorem dX5_needed_51 : decode cX5_needed 51 = .ok (.lcmp, 1) := by decide +kernel
theorem dX5_needed_52 : decode cX5_needed 52 = .ok (.ifCond .le 6, 3) := by decide +kernel
theorem dX5_needed_55 : decode cX5_needed 55 = .ok (.lload 5, 2) := by decide +kernel
theorem dX5_needed_57 : decode cX5_needed 57 = .ok (.lstore_n 1, 1) := by decide +kernel
theorem dX5_needed_58 : decode cX5_needed 58 = .ok (.iconst 1, 1) := by decide +kernel
theorem dX5_needed_59 : decode cX5_needed 59 = .ok (.istore_n 3, 1) := by decide +kernel
theorem dX5_needed_60 : decode cX5_needed 60 = .ok (.iinc 4 1, 3) := by decide +kernel
theorem dX5_needed_63 : decode cX5_needed 63 = .ok (.goto (-56), 3) := by decide +kernel
theorem dX5_needed_66 : decode cX5_needed 66 = .ok (.lload_n 1, 1) := by decide +kernel
theorem dX5_needed_67 : decode cX5_needed 67 = .ok (.lreturn, 1) := by decide +kernel
theorem dX5_isSettingValue_0 : decode cX5_isSettingValue 0 = .ok (.iload_n 0, 1) := by decide +kernel
theorem dX5_isSettingValue_1 : decode cX5_isSettingValue 1 = .ok (.tableswitch 95 0 5 #[39, 50, 59, 70, 78, 86], 39) := by decide +kernel
theorem dX5_isSettingValue_40 : decode cX5_isSettingValue 40 = .ok (.iload_n 1, 1) := by decide +kernel
theorem dX5_isSettingValue_41 : decode cX5_isSettingValue 41 = .ok (.sipush 600, 3) := by decide +kernel
theorem dX5_isSettingValue_44 : decode cX5_isSettingValue 44 = .ok (.sipush 1200, 3) := by decide +kernel
theorem dX5_isSettingValue_47 : decode cX5_isSettingValue 47 = .ok (.invokestatic 96, 3) := by decide +kernel
theorem dX5_isSettingValue_50 : decode cX5_isSettingValue 50 = .ok (.ireturn, 1) := by decide +kernel
theorem dX5_isSettingValue_51 : decode cX5_isSettingValue 51 = .ok (.iload_n 1, 1) := by decide +kernel
theorem dX5_isSettingValue_52 : decode cX5_isSettingValue 52 = .ok (.iconst 0, 1) := by decide +kernel
theorem dX5_isSettingValue_53 : decode cX5_isSettingValue 53 = .ok (.sipush 200, 3) := by decide +kernel
theorem dX5_isSettingValue_56 : decode cX5_isSettingValue 56 = .ok (.invokestatic 96, 3) := by decide +kernel
theorem dX5_isSettingValue_59 : decode cX5_isSettingValue 59 = .ok (.ireturn, 1) := by decide +kernel
theorem dX5_isSettingValue_60 : decode cX5_isSettingValue 60 = .ok (.iload_n 1, 1) := by decide +kernel
theorem dX5_isSettingValue_61 : decode cX5_isSettingValue 61 = .ok (.sipush (-300), 3) := by decide +kernel
theorem dX5_isSettingValue_64 : decode cX5_isSettingValue 64 = .ok (.sipush 300, 3) := by decide +kernel
theorem dX5_isSettingValue_67 : decode cX5_isSettingValue 67 = .ok (.invokestatic 96, 3) := by decide +kernel
theorem dX5_isSettingValue_70 : decode cX5_isSettingValue 70 = .ok (.ireturn, 1) := by decide +kernel
theorem dX5_isSettingValue_71 : decode cX5_isSettingValue 71 = .ok (.iload_n 1, 1) := by decide +kernel
theorem dX5_isSettingValue_72 : decode cX5_isSettingValue 72 = .ok (.iconst 0, 1) := by decide +kernel
theorem dX5_isSettingValue_73 : decode cX5_isSettingValue 73 = .ok (.bipush 99, 2) := by decide +kernel
theorem dX5_isSettingValue_75 : decode cX5_isSettingValue 75 = .ok (.invokestatic 96, 3) := by decide +kernel
theorem dX5_isSettingValue_78 : decode cX5_isSettingValue 78 = .ok (.ireturn, 1) := by decide +kernel
theorem dX5_isSettingValue_79 : decode cX5_isSettingValue 79 = .ok (.iload_n 1, 1) := by decide +kernel
theorem dX5_isSettingValue_80 : decode cX5_isSettingValue 80 = .ok (.iconst 1, 1) := by decide +kernel
theorem dX5_isSettingValue_81 : decode cX5_isSettingValue 81 = .ok (.ldc 228, 2) := by decide +kernel
theorem dX5_isSettingValue_83 : decode cX5_isSettingValue 83 = .ok (.invokestatic 96, 3) := by decide +kernel
theorem dX5_isSettingValue_86 : decode cX5_isSettingValue 86 = .ok (.ireturn, 1) := by decide +kernel
theorem dX5_isSettingValue_87 : decode cX5_isSettingValue 87 = .ok (.iload_n 1, 1) := by decide +kernel
theorem dX5_isSettingValue_88 : decode cX5_isSettingValue 88 = .ok (.iconst 0, 1) := by decide +kernel
theorem dX5_isSettingValue_89 : decode cX5_isSettingValue 89 = .ok (.sipush 999, 3) := by decide +kernel
theorem dX5_isSettingValue_92 : decode cX5_isSettingValue 92 = .ok (.invokestatic 96, 3) := by decide +kernel
theorem dX5_isSettingValue_95 : decode cX5_isSettingValue 95 = .ok (.ireturn, 1) := by decide +kernel
theorem dX5_isSettingValue_96 : decode cX5_isSettingValue 96 = .ok (.iload_n 1, 1) := by decide +kernel
theorem dX5_isSettingValue_97 : decode cX5_isSettingValue 97 = .ok (.iconst 0, 1) := by decide +kernel
theorem dX5_isSettingValue_98 : decode cX5_isSettingValue 98 = .ok (.bipush 99, 2) := by decide +kernel
theorem dX5_isSettingValue_100 : decode cX5_isSettingValue 100 = .ok (.invokestatic 96, 3) := by decide +kernel
theorem dX5_isSettingValue_103 : decode cX5_isSettingValue 103 = .ok (.ireturn, 1) := by decide +kernel
theorem dX5_pipeBy_0 : decode cX5_pipeBy 0 = .ok (.iload_n 1, 1) := by decide +kernel
theorem dX5_pipeBy_1 : decode cX5_pipeBy 1 = .ok (.invokestatic 229, 3) := by decide +kernel
theorem dX5_pipeBy_4 : decode cX5_pipeBy 4 = .ok (.ifCond .eq 10, 3) := by decide +kernel
theorem dX5_pipeBy_7 : decode cX5_pipeBy 7 = .ok (.iload_n 2, 1) := by decide +kernel
theorem dX5_pipeBy_8 : decode cX5_pipeBy 8 = .ok (.invokestatic 229, 3) := by decide +kernel
theorem dX5_pipeBy_11 : decode cX5_pipeBy 11 = .ok (.ifCond .ne 5, 3) := by decide +kernel
theorem dX5_pipeBy_14 : decode cX5_pipeBy 14 = .ok (.iconst 1, 1) := by decide +kernel
theorem dX5_pipeBy_15 : decode cX5_pipeBy 15 = .ok (.ireturn, 1) := by decide +kernel
theorem dX5_pipeBy_16 : decode cX5_pipeBy 16 = .ok (.iload_n 3, 1) := by decide +kernel
theorem dX5_pipeBy_17 : decode cX5_pipeBy 17 = .ok (.iconst 1, 1) := by decide +kernel
theorem dX5_pipeBy_18 : decode cX5_pipeBy 18 = .ok (.bipush 99, 2) := by decide +kernel
theorem dX5_pipeBy_20 : decode cX5_pipeBy 20 = .ok (.invokestatic 96, 3) := by decide +kernel
theorem dX5_pipeBy_23 : decode cX5_pipeBy 23 = .ok (.ifCond .eq 14, 3) := by decide +kernel
theorem dX5_pipeBy_26 : decode cX5_pipeBy 26 = .ok (.iload 4, 2) := by decide +kernel
theorem dX5_pipeBy_28 : decode cX5_pipeBy 28 = .ok (.iconst 1, 1) := by decide +kernel
theorem dX5_pipeBy_29 : decode cX5_pipeBy 29 = .ok (.bipush 9, 2) := by decide +kernel
theorem dX5_pipeBy_31 : decode cX5_pipeBy 31 = .ok (.invokestatic 96, 3) := by decide +kernel
theorem dX5_pipeBy_34 : decode cX5_pipeBy 34 = .ok (.ifCond .ne 5, 3) := by decide +kernel
theorem dX5_pipeBy_37 : decode cX5_pipeBy 37 = .ok (.iconst 2, 1) := by decide +kernel
theorem dX5_pipeBy_38 : decode cX5_pipeBy 38 = .ok (.ireturn, 1) := by decide +kernel
theorem dX5_pipeBy_39 : decode cX5_pipeBy 39 = .ok (.iload_n 1, 1) := by decide +kernel
theorem dX5_pipeBy_40 : decode cX5_pipeBy 40 = .ok (.iload_n 2, 1) := by decide +kernel
theorem dX5_pipeBy_41 : decode cX5_pipeBy 41 = .ok (.if_icmp .ne 5, 3) := by decide +kernel
theorem dX5_pipeBy_44 : decode cX5_pipeBy 44 = .ok (.iconst 3, 1) := by decide +kernel
theorem dX5_pipeBy_45 : decode cX5_pipeBy 45 = .ok (.ireturn, 1) := by decide +kernel
theorem dX5_pipeBy_46 : decode cX5_pipeBy 46 = .ok (.iconst 0, 1) := by decide +kernel
theorem dX5_pipeBy_47 : decode cX5_pipeBy 47 = .ok (.istore 5, 2) := by decide +kernel
theorem dX5_pipeBy_49 : decode cX5_pipeBy 49 = .ok (.iload 5, 2) := by decide +kernel
theorem dX5_pipeBy_51 : decode cX5_pipeBy 51 = .ok (.aload_n 0, 1) := by decide +kernel
theorem dX5_pipeBy_52 : decode cX5_pipeBy 52 = .ok (.invokevirtual 106, 3) := by decide +kernel
theorem dX5_pipeBy_55 : decode cX5_pipeBy 55 = .ok (.if_icmp .ge 22, 3) := by decide +kernel
theorem dX5_pipeBy_58 : decode cX5_pipeBy 58 = .ok (.aload_n 0, 1) := by decide +kernel
theorem dX5_pipeBy_59 : decode cX5_pipeBy 59 = .ok (.iload 5, 2) := by decide +kernel
theorem dX5_pipeBy_61 : decode cX5_pipeBy 61 = .ok (.iload_n 1, 1) := by decide +kernel
theorem dX5_pipeBy_62 : decode cX5_pipeBy 62 = .ok (.invokevirtual 114, 3) := by decide +kernel
theorem dX5_pipeBy_65 : decode cX5_pipeBy 65 = .ok (.iload_n 2, 1) := by decide +kernel
theorem dX5_pipeBy_66 : decode cX5_pipeBy 66 = .ok (.if_icmp .ne 5, 3) := by decide +kernel
theorem dX5_pipeBy_69 : decode cX5_pipeBy 69 = .ok (.iconst 3, 1) := by decide +kernel
theorem dX5_pipeBy_70 : decode cX5_pipeBy 70 = .ok (.ireturn, 1) := by decide +kernel
theorem dX5_pipeBy_71 : decode cX5_pipeBy 71 = .ok (.iinc 5 1, 3) := by decide +kernel
theorem dX5_pipeBy_74 : decode cX5_pipeBy 74 = .ok (.goto (-25), 3) := by decide +kernel
theorem dX5_pipeBy_77 : decode cX5_pipeBy 77 = .ok (.aload_n 0, 1) := by decide +kernel
theorem dX5_pipeBy_78 : decode cX5_pipeBy 78 = .ok (.invokevirtual 106, 3) := by decide +kernel
theorem dX5_pipeBy_81 : decode cX5_pipeBy 81 = .ok (.bipush 10, 2) := by decide +kernel
theorem dX5_pipeBy_83 : decode cX5_pipeBy 83 = .ok (.if_icmp .ne 5, 3) := by decide +kernel
theorem dX5_pipeBy_86 : decode cX5_pipeBy 86 = .ok (.iconst 4, 1) := by decide +kernel
theorem dX5_pipeBy_87 : decode cX5_pipeBy 87 = .ok (.ireturn, 1) := by decide +kernel
theorem dX5_pipeBy_88 : decode cX5_pipeBy 88 = .ok (.bipush 8, 2) := by decide +kernel
theorem dX5_pipeBy_90 : decode cX5_pipeBy 90 = .ok (.iconst 4, 1) := by decide +kernel
theorem dX5_pipeBy_91 : decode cX5_pipeBy 91 = .ok (.aload_n 0, 1) := by decide +kernel
theorem dX5_pipeBy_92 : decode cX5_pipeBy 92 = .ok (.getfield 9, 3) := by decide +kernel
theorem dX5_pipeBy_95 : decode cX5_pipeBy 95 = .ok (.bipush 7, 2) := by decide +kernel
theorem dX5_pipeBy_97 : decode cX5_pipeBy 97 = .ok (.dup2, 1) := by decide +kernel
theorem dX5_pipeBy_98 : decode cX5_pipeBy 98 = .ok (.iaload, 1) := by decide +kernel
theorem dX5_pipeBy_99 : decode cX5_pipeBy 99 = .ok (.dup_x2, 1) := by decide +kernel
theorem dX5_pipeBy_100 : decode cX5_pipeBy 100 = .ok (.iconst 1, 1) := by decide +kernel
theorem dX5_pipeBy_101 : decode cX5_pipeBy 101 = .ok (.iadd, 1) := by decide +kernel
theorem dX5_pipeBy_102 : decode cX5_pipeBy 102 = .ok (.iastore, 1) := by decide +kernel
theorem dX5_pipeBy_103 : decode cX5_pipeBy 103 = .ok (.imul, 1) := by decide +kernel
theorem dX5_pipeBy_104 : decode cX5_pipeBy 104 = .ok (.iadd, 1) := by decide +kernel
theorem dX5_pipeBy_105 : decode cX5_pipeBy 105 = .ok (.istore 5, 2) := by decide +kernel
theorem dX5_pipeBy_107 : decode cX5_pipeBy 107 = .ok (.aload_n 0, 1) := by decide +kernel
theorem dX5_pipeBy_108 : decode cX5_pipeBy 108 = .ok (.getfield 9, 3) := by decide +kernel
theorem dX5_pipeBy_111 : decode cX5_pipeBy 111 = .ok (.iload 5, 2) := by decide +kernel
theorem dX5_pipeBy_113 : decode cX5_pipeBy 113 = .ok (.iload_n 1, 1) := by decide +kernel
theorem dX5_pipeBy_114 : decode cX5_pipeBy 114 = .ok (.iastore, 1) := by decide +kernel
theorem dX5_pipeBy_115 : decode cX5_pipeBy 115 = .ok (.aload_n 0, 1) := by decide +kernel
theorem dX5_pipeBy_116 : decode cX5_pipeBy 116 = .ok (.getfield 9, 3) := by decide +kernel
theorem dX5_pipeBy_119 : decode cX5_pipeBy 119 = .ok (.iload 5, 2) := by decide +kernel
theorem dX5_pipeBy_121 : decode cX5_pipeBy 121 = .ok (.iconst 1, 1) := by decide +kernel
theorem dX5_pipeBy_122 : decode cX5_pipeBy 122 = .ok (.iadd, 1) := by decide +kernel
theorem dX5_pipeBy_123 : decode cX5_pipeBy 123 = .ok (.iload_n 2, 1) := by decide +kernel
theorem dX5_pipeBy_124 : decode cX5_pipeBy 124 = .ok (.iastore, 1) := by decide +kernel
theorem dX5_pipeBy_125 : decode cX5_pipeBy 125 = .ok (.aload_n 0, 1) := by decide +kernel
theorem dX5_pipeBy_126 : decode cX5_pipeBy 126 = .ok (.getfield 9, 3) := by decide +kernel
theorem dX5_pipeBy_129 : decode cX5_pipeBy 129 = .ok (.iload 5, 2) := by decide +kernel
theorem dX5_pipeBy_131 : decode cX5_pipeBy 131 = .ok (.iconst 2, 1) := by decide +kernel
theorem dX5_pipeBy_132 : decode cX5_pipeBy 132 = .ok (.iadd, 1) := by decide +kernel
theorem dX5_pipeBy_133 : decode cX5_pipeBy 133 = .ok (.iload_n 3, 1) := by decide +kernel
theorem dX5_pipeBy_134 : decode cX5_pipeBy 134 = .ok (.iastore, 1) := by decide +kernel
theorem dX5_pipeBy_135 : decode cX5_pipeBy 135 = .ok (.aload_n 0, 1) := by decide +kernel
theorem dX5_pipeBy_136 : decode cX5_pipeBy 136 = .ok (.getfield 9, 3) := by decide +kernel
theorem dX5_pipeBy_139 : decode cX5_pipeBy 139 = .ok (.iload 5, 2) := by decide +kernel
theorem dX5_pipeBy_141 : decode cX5_pipeBy 141 = .ok (.iconst 3, 1) := by decide +kernel
theorem dX5_pipeBy_142 : decode cX5_pipeBy 142 = .ok (.iadd, 1) := by decide +kernel
theorem dX5_pipeBy_143 : decode cX5_pipeBy 143 = .ok (.iload 4, 2) := by decide +kernel
theorem dX5_pipeBy_145 : decode cX5_pipeBy 145 = .ok (.iastore, 1) := by decide +kernel
theorem dX5_pipeBy_146 : decode cX5_pipeBy 146 = .ok (.aload_n 0, 1) := by decide +kernel
theorem dX5_pipeBy_147 : decode cX5_pipeBy 147 = .ok (.iload_n 1, 1) := by decide +kernel
theorem dX5_pipeBy_148 : decode cX5_pipeBy 148 = .ok (.invokevirtual 117, 3) := by decide +kernel
theorem dX5_pipeBy_151 : decode cX5_pipeBy 151 = .ok (.iconst 0, 1) := by decide +kernel
theorem dX5_pipeBy_152 : decode cX5_pipeBy 152 = .ok (.istore 6, 2) := by decide +kernel
theorem dX5_pipeBy_154 : decode cX5_pipeBy 154 = .ok (.iconst 0, 1) := by decide +kernel
theorem dX5_pipeBy_155 : decode cX5_pipeBy 155 = .ok (.istore 7, 2) := by decide +kernel
theorem dX5_pipeBy_157 : decode cX5_pipeBy 157 = .ok (.iconst 0, 1) := by decide +kernel
theorem dX5_pipeBy_158 : decode cX5_pipeBy 158 = .ok (.istore 8, 2) := by decide +kernel
theorem dX5_pipeBy_160 : decode cX5_pipeBy 160 = .ok (.iload 8, 2) := by decide +kernel
theorem dX5_pipeBy_162 : decode cX5_pipeBy 162 = .ok (.bipush 10, 2) := by decide +kernel
theorem dX5_pipeBy_164 : decode cX5_pipeBy 164 = .ok (.if_icmp .ge 22, 3) := by decide +kernel
theorem dX5_pipeBy_167 : decode cX5_pipeBy 167 = .ok (.aload_n 0, 1) := by decide +kernel
theorem dX5_pipeBy_168 : decode cX5_pipeBy 168 = .ok (.getfield 42, 3) := by decide +kernel
theorem dX5_pipeBy_171 : decode cX5_pipeBy 171 = .ok (.iload 8, 2) := by decide +kernel
theorem dX5_pipeBy_173 : decode cX5_pipeBy 173 = .ok (.iaload, 1) := by decide +kernel
theorem dX5_pipeBy_174 : decode cX5_pipeBy 174 = .ok (.ifCond .lt 6, 3) := by decide +kernel
theorem dX5_pipeBy_177 : decode cX5_pipeBy 177 = .ok (.iinc 6 1, 3) := by decide +kernel
theorem dX5_pipeBy_180 : decode cX5_pipeBy 180 = .ok (.iinc 8 1, 3) := by decide +kernel
theorem dX5_pipeBy_183 : decode cX5_pipeBy 183 = .ok (.goto (-23), 3) := by decide +kernel
theorem dX5_pipeBy_186 : decode cX5_pipeBy 186 = .ok (.iconst 0, 1) := by decide +kernel
theorem dX5_pipeBy_187 : decode cX5_pipeBy 187 = .ok (.istore 8, 2) := by decide +kernel
theorem dX5_pipeBy_189 : decode cX5_pipeBy 189 = .ok (.iload 8, 2) := by decide +kernel
theorem dX5_pipeBy_191 : decode cX5_pipeBy 191 = .ok (.aload_n 0, 1) := by decide +kernel
theorem dX5_pipeBy_192 : decode cX5_pipeBy 192 = .ok (.invokevirtual 106, 3) := by decide +kernel
theorem dX5_pipeBy_195 : decode cX5_pipeBy 195 = .ok (.if_icmp .ge 27, 3) := by decide +kernel
theorem dX5_pipeBy_198 : decode cX5_pipeBy 198 = .ok (.aload_n 0, 1) := by decide +kernel
theorem dX5_pipeBy_199 : decode cX5_pipeBy 199 = .ok (.getfield 42, 3) := by decide +kernel
theorem dX5_pipeBy_202 : decode cX5_pipeBy 202 = .ok (.aload_n 0, 1) := by decide +kernel
theorem dX5_pipeBy_203 : decode cX5_pipeBy 203 = .ok (.iload 8, 2) := by decide +kernel
theorem dX5_pipeBy_205 : decode cX5_pipeBy 205 = .ok (.iconst 0, 1) := by decide +kernel
theorem dX5_pipeBy_206 : decode cX5_pipeBy 206 = .ok (.invokevirtual 110, 3) := by decide +kernel
theorem dX5_pipeBy_209 : decode cX5_pipeBy 209 = .ok (.iaload, 1) := by decide +kernel
theorem dX5_pipeBy_210 : decode cX5_pipeBy 210 = .ok (.ifCond .lt 6, 3) := by decide +kernel
theorem dX5_pipeBy_213 : decode cX5_pipeBy 213 = .ok (.iinc 7 1, 3) := by decide +kernel
theorem dX5_pipeBy_216 : decode cX5_pipeBy 216 = .ok (.iinc 8 1, 3) := by decide +kernel
theorem dX5_pipeBy_219 : decode cX5_pipeBy 219 = .ok (.goto (-30), 3) := by decide +kernel
theorem dX5_pipeBy_222 : decode cX5_pipeBy 222 = .ok (.iload 7, 2) := by decide +kernel
theorem dX5_pipeBy_224 : decode cX5_pipeBy 224 = .ok (.iload 6, 2) := by decide +kernel
theorem dX5_pipeBy_226 : decode cX5_pipeBy 226 = .ok (.if_icmp .gt 5, 3) := by decide +kernel
theorem dX5_pipeBy_229 : decode cX5_pipeBy 229 = .ok (.iconst 0, 1) := by decide +kernel
theorem dX5_pipeBy_230 : decode cX5_pipeBy 230 = .ok (.ireturn, 1) := by decide +kernel
theorem dX5_pipeBy_231 : decode cX5_pipeBy 231 = .ok (.aload_n 0, 1) := by decide +kernel
theorem dX5_pipeBy_232 : decode cX5_pipeBy 232 = .ok (.getfield 9, 3) := by decide +kernel
theorem dX5_pipeBy_235 : decode cX5_pipeBy 235 = .ok (.bipush 7, 2) := by decide +kernel
theorem dX5_pipeBy_237 : decode cX5_pipeBy 237 = .ok (.dup2, 1) := by decide +kernel
theorem dX5_pipeBy_238 : decode cX5_pipeBy 238 = .ok (.iaload, 1) := by decide +kernel
theorem dX5_pipeBy_239 : decode cX5_pipeBy 239 = .ok (.iconst 1, 1) := by decide +kernel
theorem dX5_pipeBy_240 : decode cX5_pipeBy 240 = .ok (.isub, 1) := by decide +kernel
theorem dX5_pipeBy_241 : decode cX5_pipeBy 241 = .ok (.iastore, 1) := by decide +kernel
theorem dX5_pipeBy_242 : decode cX5_pipeBy 242 = .ok (.iconst 5, 1) := by decide +kernel
theorem dX5_pipeBy_243 : decode cX5_pipeBy 243 = .ok (.ireturn, 1) := by decide +kernel
theorem dX5_stationBy_0 : decode cX5_stationBy 0 = .ok (.iload_n 1, 1) := by decide +kernel
theorem dX5_stationBy_1 : decode cX5_stationBy 1 = .ok (.iconst 1, 1) := by decide +kernel
theorem dX5_stationBy_2 : decode cX5_stationBy 2 = .ok (.bipush 9, 2) := by decide +kernel
theorem dX5_stationBy_4 : decode cX5_stationBy 4 = .ok (.invokestatic 96, 3) := by decide +kernel
theorem dX5_stationBy_7 : decode cX5_stationBy 7 = .ok (.ifCond .ne 5, 3) := by decide +kernel
theorem dX5_stationBy_10 : decode cX5_stationBy 10 = .ok (.iconst 1, 1) := by decide +kernel
theorem dX5_stationBy_11 : decode cX5_stationBy 11 = .ok (.ireturn, 1) := by decide +kernel
theorem dX5_stationBy_12 : decode cX5_stationBy 12 = .ok (.iload_n 2, 1) := by decide +kernel
theorem dX5_stationBy_13 : decode cX5_stationBy 13 = .ok (.iconst 1, 1) := by decide +kernel
theorem dX5_stationBy_14 : decode cX5_stationBy 14 = .ok (.bipush 99, 2) := by decide +kernel
theorem dX5_stationBy_16 : decode cX5_stationBy 16 = .ok (.invokestatic 96, 3) := by decide +kernel
theorem dX5_stationBy_19 : decode cX5_stationBy 19 = .ok (.ifCond .eq 28, 3) := by decide +kernel
theorem dX5_stationBy_22 : decode cX5_stationBy 22 = .ok (.iload_n 3, 1) := by decide +kernel
theorem dX5_stationBy_23 : decode cX5_stationBy 23 = .ok (.sipush 200, 3) := by decide +kernel
theorem dX5_stationBy_26 : decode cX5_stationBy 26 = .ok (.sipush 600, 3) := by decide +kernel
theorem dX5_stationBy_29 : decode cX5_stationBy 29 = .ok (.invokestatic 96, 3) := by decide +kernel
theorem dX5_stationBy_32 : decode cX5_stationBy 32 = .ok (.ifCond .eq 15, 3) := by decide +kernel
theorem dX5_stationBy_35 : decode cX5_stationBy 35 = .ok (.iload 4, 2) := by decide +kernel
theorem dX5_stationBy_37 : decode cX5_stationBy 37 = .ok (.iconst 1, 1) := by decide +kernel
theorem dX5_stationBy_38 : decode cX5_stationBy 38 = .ok (.sipush 999, 3) := by decide +kernel
theorem dX5_stationBy_41 : decode cX5_stationBy 41 = .ok (.invokestatic 96, 3) := by decide +kernel
theorem dX5_stationBy_44 : decode cX5_stationBy 44 = .ok (.ifCond .ne 5, 3) := by decide +kernel
theorem dX5_stationBy_47 : decode cX5_stationBy 47 = .ok (.iconst 2, 1) := by decide +kernel
theorem dX5_stationBy_48 : decode cX5_stationBy 48 = .ok (.ireturn, 1) := by decide +kernel
theorem dX5_stationBy_49 : decode cX5_stationBy 49 = .ok (.aload_n 0, 1) := by decide +kernel
theorem dX5_stationBy_50 : decode cX5_stationBy 50 = .ok (.iload_n 1, 1) := by decide +kernel
theorem dX5_stationBy_51 : decode cX5_stationBy 51 = .ok (.invokevirtual 180, 3) := by decide +kernel
theorem dX5_stationBy_54 : decode cX5_stationBy 54 = .ok (.ifCond .eq 6, 3) := by decide +kernel
theorem dX5_stationBy_57 : decode cX5_stationBy 57 = .ok (.bipush 6, 2) := by decide +kernel
theorem dX5_stationBy_59 : decode cX5_stationBy 59 = .ok (.ireturn, 1) := by decide +kernel
theorem dX5_stationBy_60 : decode cX5_stationBy 60 = .ok (.bipush 48, 2) := by decide +kernel
theorem dX5_stationBy_62 : decode cX5_stationBy 62 = .ok (.bipush 6, 2) := by decide +kernel
theorem dX5_stationBy_64 : decode cX5_stationBy 64 = .ok (.iload_n 1, 1) := by decide +kernel
theorem dX5_stationBy_65 : decode cX5_stationBy 65 = .ok (.imul, 1) := by decide +kernel
theorem dX5_stationBy_66 : decode cX5_stationBy 66 = .ok (.iadd, 1) := by decide +kernel
theorem dX5_stationBy_67 : decode cX5_stationBy 67 = .ok (.istore 5, 2) := by decide +kernel
theorem dX5_stationBy_69 : decode cX5_stationBy 69 = .ok (.aload_n 0, 1) := by decide +kernel
theorem dX5_stationBy_70 : decode cX5_stationBy 70 = .ok (.getfield 9, 3) := by decide +kernel
theorem dX5_stationBy_73 : decode cX5_stationBy 73 = .ok (.iload 5, 2) := by decide +kernel
