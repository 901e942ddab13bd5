theorem dX0_init_0 : decode cX0_init 0 = .ok (.aload_n 0, 1) := by decide +kernel
theorem dX0_init_1 : decode cX0_init 1 = .ok (.invokespecial 3, 3) := by decide +kernel
theorem dX0_init_4 : decode cX0_init 4 = .ok (.aload_n 0, 1) := by decide +kernel
theorem dX0_init_5 : decode cX0_init 5 = .ok (.getstatic 9, 3) := by decide +kernel
theorem dX0_init_8 : decode cX0_init 8 = .ok (.invokevirtual 13, 3) := by decide +kernel
theorem dX0_init_11 : decode cX0_init 11 = .ok (.checkcast 14, 3) := by decide +kernel
theorem dX0_init_14 : decode cX0_init 14 = .ok (.putfield 18, 3) := by decide +kernel
theorem dX0_init_17 : decode cX0_init 17 = .ok (.aload_n 0, 1) := by decide +kernel
theorem dX0_init_18 : decode cX0_init 18 = .ok (.iconst 0, 1) := by decide +kernel
theorem dX0_init_19 : decode cX0_init 19 = .ok (.putfield 23, 3) := by decide +kernel
theorem dX0_init_22 : decode cX0_init 22 = .ok (.aload_n 0, 1) := by decide +kernel
theorem dX0_init_23 : decode cX0_init 23 = .ok (.bipush 10, 2) := by decide +kernel
theorem dX0_init_25 : decode cX0_init 25 = .ok (.newarray .int, 2) := by decide +kernel
theorem dX0_init_27 : decode cX0_init 27 = .ok (.putfield 27, 3) := by decide +kernel
theorem dX0_init_30 : decode cX0_init 30 = .ok (.aload_n 0, 1) := by decide +kernel
theorem dX0_init_31 : decode cX0_init 31 = .ok (.bipush 10, 2) := by decide +kernel
theorem dX0_init_33 : decode cX0_init 33 = .ok (.newarray .int, 2) := by decide +kernel
theorem dX0_init_35 : decode cX0_init 35 = .ok (.putfield 30, 3) := by decide +kernel
theorem dX0_init_38 : decode cX0_init 38 = .ok (.aload_n 0, 1) := by decide +kernel
theorem dX0_init_39 : decode cX0_init 39 = .ok (.bipush 10, 2) := by decide +kernel
theorem dX0_init_41 : decode cX0_init 41 = .ok (.newarray .int, 2) := by decide +kernel
theorem dX0_init_43 : decode cX0_init 43 = .ok (.putfield 33, 3) := by decide +kernel
theorem dX0_init_46 : decode cX0_init 46 = .ok (.aload_n 0, 1) := by decide +kernel
theorem dX0_init_47 : decode cX0_init 47 = .ok (.bipush 10, 2) := by decide +kernel
theorem dX0_init_49 : decode cX0_init 49 = .ok (.newarray .int, 2) := by decide +kernel
theorem dX0_init_51 : decode cX0_init 51 = .ok (.putfield 36, 3) := by decide +kernel
theorem dX0_init_54 : decode cX0_init 54 = .ok (.aload_n 0, 1) := by decide +kernel
theorem dX0_init_55 : decode cX0_init 55 = .ok (.bipush 10, 2) := by decide +kernel
theorem dX0_init_57 : decode cX0_init 57 = .ok (.newarray .int, 2) := by decide +kernel
theorem dX0_init_59 : decode cX0_init 59 = .ok (.putfield 39, 3) := by decide +kernel
theorem dX0_init_62 : decode cX0_init 62 = .ok (.aload_n 0, 1) := by decide +kernel
theorem dX0_init_63 : decode cX0_init 63 = .ok (.bipush 10, 2) := by decide +kernel
theorem dX0_init_65 : decode cX0_init 65 = .ok (.newarray .int, 2) := by decide +kernel
theorem dX0_init_67 : decode cX0_init 67 = .ok (.putfield 42, 3) := by decide +kernel
theorem dX0_init_70 : decode cX0_init 70 = .ok (.aload_n 0, 1) := by decide +kernel
theorem dX0_init_71 : decode cX0_init 71 = .ok (.bipush 10, 2) := by decide +kernel
theorem dX0_init_73 : decode cX0_init 73 = .ok (.newarray .int, 2) := by decide +kernel
theorem dX0_init_75 : decode cX0_init 75 = .ok (.putfield 45, 3) := by decide +kernel
theorem dX0_init_78 : decode cX0_init 78 = .ok (.aload_n 0, 1) := by decide +kernel
theorem dX0_init_79 : decode cX0_init 79 = .ok (.bipush 10, 2) := by decide +kernel
theorem dX0_init_81 : decode cX0_init 81 = .ok (.newarray .int, 2) := by decide +kernel
theorem dX0_init_83 : decode cX0_init 83 = .ok (.putfield 48, 3) := by decide +kernel
theorem dX0_init_86 : decode cX0_init 86 = .ok (.aload_n 0, 1) := by decide +kernel
theorem dX0_init_87 : decode cX0_init 87 = .ok (.bipush 10, 2) := by decide +kernel
theorem dX0_init_89 : decode cX0_init 89 = .ok (.newarray .int, 2) := by decide +kernel
theorem dX0_init_91 : decode cX0_init 91 = .ok (.putfield 51, 3) := by decide +kernel
theorem dX0_init_94 : decode cX0_init 94 = .ok (.aload_n 0, 1) := by decide +kernel
theorem dX0_init_95 : decode cX0_init 95 = .ok (.bipush 10, 2) := by decide +kernel
theorem dX0_init_97 : decode cX0_init 97 = .ok (.newarray .long, 2) := by decide +kernel
theorem dX0_init_99 : decode cX0_init 99 = .ok (.putfield 54, 3) := by decide +kernel
theorem dX0_init_102 : decode cX0_init 102 = .ok (.aload_n 0, 1) := by decide +kernel
theorem dX0_init_103 : decode cX0_init 103 = .ok (.bipush 10, 2) := by decide +kernel
theorem dX0_init_105 : decode cX0_init 105 = .ok (.newarray .long, 2) := by decide +kernel
theorem dX0_init_107 : decode cX0_init 107 = .ok (.putfield 58, 3) := by decide +kernel
theorem dX0_init_110 : decode cX0_init 110 = .ok (.aload_n 0, 1) := by decide +kernel
theorem dX0_init_111 : decode cX0_init 111 = .ok (.bipush 10, 2) := by decide +kernel
theorem dX0_init_113 : decode cX0_init 113 = .ok (.newarray .long, 2) := by decide +kernel
theorem dX0_init_115 : decode cX0_init 115 = .ok (.putfield 61, 3) := by decide +kernel
theorem dX0_init_118 : decode cX0_init 118 = .ok (.aload_n 0, 1) := by decide +kernel
theorem dX0_init_119 : decode cX0_init 119 = .ok (.lconst 0, 1) := by decide +kernel
theorem dX0_init_120 : decode cX0_init 120 = .ok (.putfield 64, 3) := by decide +kernel
theorem dX0_init_123 : decode cX0_init 123 = .ok (.aload_n 0, 1) := by decide +kernel
theorem dX0_init_124 : decode cX0_init 124 = .ok (.lconst 0, 1) := by decide +kernel
theorem dX0_init_125 : decode cX0_init 125 = .ok (.putfield 68, 3) := by decide +kernel
theorem dX0_init_128 : decode cX0_init 128 = .ok (.aload_n 0, 1) := by decide +kernel
theorem dX0_init_129 : decode cX0_init 129 = .ok (.lconst 0, 1) := by decide +kernel
theorem dX0_init_130 : decode cX0_init 130 = .ok (.putfield 71, 3) := by decide +kernel
theorem dX0_init_133 : decode cX0_init 133 = .ok (.aload_n 0, 1) := by decide +kernel
theorem dX0_init_134 : decode cX0_init 134 = .ok (.lconst 0, 1) := by decide +kernel
theorem dX0_init_135 : decode cX0_init 135 = .ok (.putfield 74, 3) := by decide +kernel
theorem dX0_init_138 : decode cX0_init 138 = .ok (.return_, 1) := by decide +kernel
theorem dX0_takeOver_0 : decode cX0_takeOver 0 = .ok (.aload_n 1, 1) := by decide +kernel
theorem dX0_takeOver_1 : decode cX0_takeOver 1 = .ok (.getfield 18, 3) := by decide +kernel
theorem dX0_takeOver_4 : decode cX0_takeOver 4 = .ok (.iconst 0, 1) := by decide +kernel
theorem dX0_takeOver_5 : decode cX0_takeOver 5 = .ok (.aload_n 0, 1) := by decide +kernel
theorem dX0_takeOver_6 : decode cX0_takeOver 6 = .ok (.getfield 18, 3) := by decide +kernel
theorem dX0_takeOver_9 : decode cX0_takeOver 9 = .ok (.iconst 0, 1) := by decide +kernel
theorem dX0_takeOver_10 : decode cX0_takeOver 10 = .ok (.bipush 7, 2) := by decide +kernel
theorem dX0_takeOver_12 : decode cX0_takeOver 12 = .ok (.invokestatic 77, 3) := by decide +kernel
theorem dX0_takeOver_15 : decode cX0_takeOver 15 = .ok (.aload_n 0, 1) := by decide +kernel
theorem dX0_takeOver_16 : decode cX0_takeOver 16 = .ok (.aload_n 1, 1) := by decide +kernel
theorem dX0_takeOver_17 : decode cX0_takeOver 17 = .ok (.getfield 23, 3) := by decide +kernel
theorem dX0_takeOver_20 : decode cX0_takeOver 20 = .ok (.putfield 23, 3) := by decide +kernel
theorem dX0_takeOver_23 : decode cX0_takeOver 23 = .ok (.aload_n 1, 1) := by decide +kernel
theorem dX0_takeOver_24 : decode cX0_takeOver 24 = .ok (.getfield 27, 3) := by decide +kernel
theorem dX0_takeOver_27 : decode cX0_takeOver 27 = .ok (.iconst 0, 1) := by decide +kernel
theorem dX0_takeOver_28 : decode cX0_takeOver 28 = .ok (.aload_n 0, 1) := by decide +kernel
theorem dX0_takeOver_29 : decode cX0_takeOver 29 = .ok (.getfield 27, 3) := by decide +kernel
theorem dX0_takeOver_32 : decode cX0_takeOver 32 = .ok (.iconst 0, 1) := by decide +kernel
theorem dX0_takeOver_33 : decode cX0_takeOver 33 = .ok (.bipush 10, 2) := by decide +kernel
theorem dX0_takeOver_35 : decode cX0_takeOver 35 = .ok (.invokestatic 77, 3) := by decide +kernel
theorem dX0_takeOver_38 : decode cX0_takeOver 38 = .ok (.aload_n 1, 1) := by decide +kernel
theorem dX0_takeOver_39 : decode cX0_takeOver 39 = .ok (.getfield 30, 3) := by decide +kernel
theorem dX0_takeOver_42 : decode cX0_takeOver 42 = .ok (.iconst 0, 1) := by decide +kernel
theorem dX0_takeOver_43 : decode cX0_takeOver 43 = .ok (.aload_n 0, 1) := by decide +kernel
theorem dX0_takeOver_44 : decode cX0_takeOver 44 = .ok (.getfield 30, 3) := by decide +kernel
theorem dX0_takeOver_47 : decode cX0_takeOver 47 = .ok (.iconst 0, 1) := by decide +kernel
theorem dX0_takeOver_48 : decode cX0_takeOver 48 = .ok (.bipush 10, 2) := by decide +kernel
theorem dX0_takeOver_50 : decode cX0_takeOver 50 = .ok (.invokestatic 77, 3) := by decide +kernel
theorem dX0_takeOver_53 : decode cX0_takeOver 53 = .ok (.aload_n 1, 1) := by decide +kernel
theorem dX0_takeOver_54 : decode cX0_takeOver 54 = .ok (.getfield 33, 3) := by decide +kernel
theorem dX0_takeOver_57 : decode cX0_takeOver 57 = .ok (.iconst 0, 1) := by decide +kernel
theorem dX0_takeOver_58 : decode cX0_takeOver 58 = .ok (.aload_n 0, 1) := by decide +kernel
theorem dX0_takeOver_59 : decode cX0_takeOver 59 = .ok (.getfield 33, 3) := by decide +kernel
theorem dX0_takeOver_62 : decode cX0_takeOver 62 = .ok (.iconst 0, 1) := by decide +kernel
theorem dX0_takeOver_63 : decode cX0_takeOver 63 = .ok (.bipush 10, 2) := by decide +kernel
theorem dX0_takeOver_65 : decode cX0_takeOver 65 = .ok (.invokestatic 77, 3) := by decide +kernel
theorem dX0_takeOver_68 : decode cX0_takeOver 68 = .ok (.aload_n 1, 1) := by decide +kernel
theorem dX0_takeOver_69 : decode cX0_takeOver 69 = .ok (.getfield 36, 3) := by decide +kernel
theorem dX0_takeOver_72 : decode cX0_takeOver 72 = .ok (.iconst 0, 1) := by decide +kernel
theorem dX0_takeOver_73 : decode cX0_takeOver 73 = .ok (.aload_n 0, 1) := by decide +kernel
theorem dX0_takeOver_74 : decode cX0_takeOver 74 = .ok (.getfield 36, 3) := by decide +kernel
theorem dX0_takeOver_77 : decode cX0_takeOver 77 = .ok (.iconst 0, 1) := by decide +kernel
theorem dX0_takeOver_78 : decode cX0_takeOver 78 = .ok (.bipush 10, 2) := by decide +kernel
theorem dX0_takeOver_80 : decode cX0_takeOver 80 = .ok (.invokestatic 77, 3) := by decide +kernel
theorem dX0_takeOver_83 : decode cX0_takeOver 83 = .ok (.aload_n 1, 1) := by decide +kernel
theorem dX0_takeOver_84 : decode cX0_takeOver 84 = .ok (.getfield 39, 3) := by decide +kernel
theorem dX0_takeOver_87 : decode cX0_takeOver 87 = .ok (.iconst 0, 1) := by decide +kernel
theorem dX0_takeOver_88 : decode cX0_takeOver 88 = .ok (.aload_n 0, 1) := by decide +kernel
theorem dX0_takeOver_89 : decode cX0_takeOver 89 = .ok (.getfield 39, 3) := by decide +kernel
theorem dX0_takeOver_92 : decode cX0_takeOver 92 = .ok (.iconst 0, 1) := by decide +kernel
theorem dX0_takeOver_93 : decode cX0_takeOver 93 = .ok (.bipush 10, 2) := by decide +kernel
theorem dX0_takeOver_95 : decode cX0_takeOver 95 = .ok (.invokestatic 77, 3) := by decide +kernel
theorem dX0_takeOver_98 : decode cX0_takeOver 98 = .ok (.aload_n 1, 1) := by decide +kernel
theorem dX0_takeOver_99 : decode cX0_takeOver 99 = .ok (.getfield 42, 3) := by decide +kernel
theorem dX0_takeOver_102 : decode cX0_takeOver 102 = .ok (.iconst 0, 1) := by decide +kernel
theorem dX0_takeOver_103 : decode cX0_takeOver 103 = .ok (.aload_n 0, 1) := by decide +kernel
theorem dX0_takeOver_104 : decode cX0_takeOver 104 = .ok (.getfield 42, 3) := by decide +kernel
theorem dX0_takeOver_107 : decode cX0_takeOver 107 = .ok (.iconst 0, 1) := by decide +kernel
theorem dX0_takeOver_108 : decode cX0_takeOver 108 = .ok (.bipush 10, 2) := by decide +kernel
theorem dX0_takeOver_110 : decode cX0_takeOver 110 = .ok (.invokestatic 77, 3) := by decide +kernel
theorem dX0_takeOver_113 : decode cX0_takeOver 113 = .ok (.aload_n 1, 1) := by decide +kernel
theorem dX0_takeOver_114 : decode cX0_takeOver 114 = .ok (.getfield 45, 3) := by decide +kernel
theorem dX0_takeOver_117 : decode cX0_takeOver 117 = .ok (.iconst 0, 1) := by decide +kernel
theorem dX0_takeOver_118 : decode cX0_takeOver 118 = .ok (.aload_n 0, 1) := by decide +kernel
theorem dX0_takeOver_119 : decode cX0_takeOver 119 = .ok (.getfield 45, 3) := by decide +kernel
theorem dX0_takeOver_122 : decode cX0_takeOver 122 = .ok (.iconst 0, 1) := by decide +kernel
theorem dX0_takeOver_123 : decode cX0_takeOver 123 = .ok (.bipush 10, 2) := by decide +kernel
theorem dX0_takeOver_125 : decode cX0_takeOver 125 = .ok (.invokestatic 77, 3) := by decide +kernel
theorem dX0_takeOver_128 : decode cX0_takeOver 128 = .ok (.aload_n 1, 1) := by decide +kernel
theorem dX0_takeOver_129 : decode cX0_takeOver 129 = .ok (.getfield 48, 3) := by decide +kernel
theorem dX0_takeOver_132 : decode cX0_takeOver 132 = .ok (.iconst 0, 1) := by decide +kernel
theorem dX0_takeOver_133 : decode cX0_takeOver 133 = .ok (.aload_n 0, 1) := by decide +kernel
theorem dX0_takeOver_134 : decode cX0_takeOver 134 = .ok (.getfield 48, 3) := by decide +kernel
theorem dX0_takeOver_137 : decode cX0_takeOver 137 = .ok (.iconst 0, 1) := by decide +kernel
theorem dX0_takeOver_138 : decode cX0_takeOver 138 = .ok (.bipush 10, 2) := by decide +kernel
theorem dX0_takeOver_140 : decode cX0_takeOver 140 = .ok (.invokestatic 77, 3) := by decide +kernel
theorem dX0_takeOver_143 : decode cX0_takeOver 143 = .ok (.aload_n 1, 1) := by decide +kernel
theorem dX0_takeOver_144 : decode cX0_takeOver 144 = .ok (.getfield 51, 3) := by decide +kernel
theorem dX0_takeOver_147 : decode cX0_takeOver 147 = .ok (.iconst 0, 1) := by decide +kernel
theorem dX0_takeOver_148 : decode cX0_takeOver 148 = .ok (.aload_n 0, 1) := by decide +kernel
theorem dX0_takeOver_149 : decode cX0_takeOver 149 = .ok (.getfield 51, 3) := by decide +kernel
theorem dX0_takeOver_152 : decode cX0_takeOver 152 = .ok (.iconst 0, 1) := by decide +kernel
theorem dX0_takeOver_153 : decode cX0_takeOver 153 = .ok (.bipush 10, 2) := by decide +kernel
theorem dX0_takeOver_155 : decode cX0_takeOver 155 = .ok (.invokestatic 77, 3) := by decide +kernel
theorem dX0_takeOver_158 : decode cX0_takeOver 158 = .ok (.aload_n 1, 1) := by decide +kernel
theorem dX0_takeOver_159 : decode cX0_takeOver 159 = .ok (.getfield 54, 3) := by decide +kernel
theorem dX0_takeOver_162 : decode cX0_takeOver 162 = .ok (.iconst 0, 1) := by decide +kernel
theorem dX0_takeOver_163 : decode cX0_takeOver 163 = .ok (.aload_n 0, 1) := by decide +kernel
theorem dX0_takeOver_164 : decode cX0_takeOver 164 = .ok (.getfield 54, 3) := by decide +kernel
theorem dX0_takeOver_167 : decode cX0_takeOver 167 = .ok (.iconst 0, 1) := by decide +kernel
theorem dX0_takeOver_168 : decode cX0_takeOver 168 = .ok (.bipush 10, 2) := by decide +kernel
theorem dX0_takeOver_170 : decode cX0_takeOver 170 = .ok (.invokestatic 77, 3) := by decide +kernel
theorem dX0_takeOver_173 : decode cX0_takeOver 173 = .ok (.aload_n 1, 1) := by decide +kernel
theorem dX0_takeOver_174 : decode cX0_takeOver 174 = .ok (.getfield 58, 3) := by decide +kernel
theorem dX0_takeOver_177 : decode cX0_takeOver 177 = .ok (.iconst 0, 1) := by decide +kernel
theorem dX0_takeOver_178 : decode cX0_takeOver 178 = .ok (.aload_n 0, 1) := by decide +kernel
theorem dX0_takeOver_179 : decode cX0_takeOver 179 = .ok (.getfield 58, 3) := by decide +kernel
theorem dX0_takeOver_182 : decode cX0_takeOver 182 = .ok (.iconst 0, 1) := by decide +kernel
theorem dX0_takeOver_183 : decode cX0_takeOver 183 = .ok (.bipush 10, 2) := by decide +kernel
theorem dX0_takeOver_185 : decode cX0_takeOver 185 = .ok (.invokestatic 77, 3) := by decide +kernel
theorem dX0_takeOver_188 : decode cX0_takeOver 188 = .ok (.aload_n 1, 1) := by decide +kernel
theorem dX0_takeOver_189 : decode cX0_takeOver 189 = .ok (.getfield 61, 3) := by decide +kernel
theorem dX0_takeOver_192 : decode cX0_takeOver 192 = .ok (.iconst 0, 1) := by decide +kernel
theorem dX0_takeOver_193 : decode cX0_takeOver 193 = .ok (.aload_n 0, 1) := by decide +kernel
theorem dX0_takeOver_194 : decode cX0_takeOver 194 = .ok (.getfield 61, 3) := by decide +kernel
theorem dX0_takeOver_197 : decode cX0_takeOver 197 = .ok (.iconst 0, 1) := by decide +kernel
theorem dX0_takeOver_198 : decode cX0_takeOver 198 = .ok (.bipush 10, 2) := by decide +kernel
theorem dX0_takeOver_200 : decode cX0_takeOver 200 = .ok (.invokestatic 77, 3) := by decide +kernel
theorem dX0_takeOver_203 : decode cX0_takeOver 203 = .ok (.aload_n 0, 1) := by decide +kernel
theorem dX0_takeOver_204 : decode cX0_takeOver 204 = .ok (.aload_n 1, 1) := by decide +kernel
theorem dX0_takeOver_205 : decode cX0_takeOver 205 = .ok (.getfield 64, 3) := by decide +kernel
theorem dX0_takeOver_208 : decode cX0_takeOver 208 = .ok (.putfield 64, 3) := by decide +kernel
theorem dX0_takeOver_211 : decode cX0_takeOver 211 = .ok (.aload_n 0, 1) := by decide +kernel
theorem dX0_takeOver_212 : decode cX0_takeOver 212 = .ok (.aload_n 1, 1) := by decide +kernel
theorem dX0_takeOver_213 : decode cX0_takeOver 213 = .ok (.getfield 68, 3) := by decide +kernel
theorem dX0_takeOver_216 : decode cX0_takeOver 216 = .ok (.putfield 68, 3) := by decide +kernel
theorem dX0_takeOver_219 : decode cX0_takeOver 219 = .ok (.aload_n 0, 1) := by decide +kernel
theorem dX0_takeOver_220 : decode cX0_takeOver 220 = .ok (.aload_n 1, 1) := by decide +kernel
theorem dX0_takeOver_221 : decode cX0_takeOver 221 = .ok (.getfield 71, 3) := by decide +kernel
theorem dX0_takeOver_224 : decode cX0_takeOver 224 = .ok (.putfield 71, 3) := by decide +kernel
theorem dX0_takeOver_227 : decode cX0_takeOver 227 = .ok (.aload_n 0, 1) := by decide +kernel
theorem dX0_takeOver_228 : decode cX0_takeOver 228 = .ok (.aload_n 1, 1) := by decide +kernel
theorem dX0_takeOver_229 : decode cX0_takeOver 229 = .ok (.getfield 74, 3) := by decide +kernel
theorem dX0_takeOver_232 : decode cX0_takeOver 232 = .ok (.putfield 74, 3) := by decide +kernel
theorem dX0_takeOver_235 : decode cX0_takeOver 235 = .ok (.return_, 1) := by decide +kernel
theorem dX0_pipeReason_0 : decode cX0_pipeReason 0 = .ok (.iload_n 1, 1) := by decide +kernel
theorem dX0_pipeReason_1 : decode cX0_pipeReason 1 = .ok (.invokestatic 83, 3) := by decide +kernel
theorem dX0_pipeReason_4 : decode cX0_pipeReason 4 = .ok (.ifCond .eq 10, 3) := by decide +kernel
theorem dX0_pipeReason_7 : decode cX0_pipeReason 7 = .ok (.iload_n 2, 1) := by decide +kernel
theorem dX0_pipeReason_8 : decode cX0_pipeReason 8 = .ok (.invokestatic 83, 3) := by decide +kernel
theorem dX0_pipeReason_11 : decode cX0_pipeReason 11 = .ok (.ifCond .ne 5, 3) := by decide +kernel
theorem dX0_pipeReason_14 : decode cX0_pipeReason 14 = .ok (.iconst 1, 1) := by decide +kernel
theorem dX0_pipeReason_15 : decode cX0_pipeReason 15 = .ok (.ireturn, 1) := by decide +kernel
theorem dX0_pipeReason_16 : decode cX0_pipeReason 16 = .ok (.iload_n 3, 1) := by decide +kernel
theorem dX0_pipeReason_17 : decode cX0_pipeReason 17 = .ok (.iconst 1, 1) := by decide +kernel
theorem dX0_pipeReason_18 : decode cX0_pipeReason 18 = .ok (.bipush 99, 2) := by decide +kernel
theorem dX0_pipeReason_20 : decode cX0_pipeReason 20 = .ok (.invokestatic 87, 3) := by decide +kernel
theorem dX0_pipeReason_23 : decode cX0_pipeReason 23 = .ok (.ifCond .eq 14, 3) := by decide +kernel
theorem dX0_pipeReason_26 : decode cX0_pipeReason 26 = .ok (.iload 4, 2) := by decide +kernel
theorem dX0_pipeReason_28 : decode cX0_pipeReason 28 = .ok (.iconst 1, 1) := by decide +kernel
theorem dX0_pipeReason_29 : decode cX0_pipeReason 29 = .ok (.bipush 9, 2) := by decide +kernel
theorem dX0_pipeReason_31 : decode cX0_pipeReason 31 = .ok (.invokestatic 87, 3) := by decide +kernel
theorem dX0_pipeReason_34 : decode cX0_pipeReason 34 = .ok (.ifCond .ne 5, 3) := by decide +kernel
theorem dX0_pipeReason_37 : decode cX0_pipeReason 37 = .ok (.iconst 2, 1) := by decide +kernel
theorem dX0_pipeReason_38 : decode cX0_pipeReason 38 = .ok (.ireturn, 1) := by decide +kernel
theorem dX0_pipeReason_39 : decode cX0_pipeReason 39 = .ok (.iload_n 1, 1) := by decide +kernel
theorem dX0_pipeReason_40 : decode cX0_pipeReason 40 = .ok (.iload_n 2, 1) := by decide +kernel
theorem dX0_pipeReason_41 : decode cX0_pipeReason 41 = .ok (.if_icmp .eq 12, 3) := by decide +kernel
theorem dX0_pipeReason_44 : decode cX0_pipeReason 44 = .ok (.aload_n 0, 1) := by decide +kernel
theorem dX0_pipeReason_45 : decode cX0_pipeReason 45 = .ok (.iload_n 1, 1) := by decide +kernel
theorem dX0_pipeReason_46 : decode cX0_pipeReason 46 = .ok (.iload_n 2, 1) := by decide +kernel
theorem dX0_pipeReason_47 : decode cX0_pipeReason 47 = .ok (.invokevirtual 91, 3) := by decide +kernel
theorem dX0_pipeReason_50 : decode cX0_pipeReason 50 = .ok (.ifCond .eq 5, 3) := by decide +kernel
theorem dX0_pipeReason_53 : decode cX0_pipeReason 53 = .ok (.iconst 3, 1) := by decide +kernel
theorem dX0_pipeReason_54 : decode cX0_pipeReason 54 = .ok (.ireturn, 1) := by decide +kernel
theorem dX0_pipeReason_55 : decode cX0_pipeReason 55 = .ok (.aload_n 0, 1) := by decide +kernel
theorem dX0_pipeReason_56 : decode cX0_pipeReason 56 = .ok (.getfield 23, 3) := by decide +kernel
theorem dX0_pipeReason_59 : decode cX0_pipeReason 59 = .ok (.bipush 10, 2) := by decide +kernel
theorem dX0_pipeReason_61 : decode cX0_pipeReason 61 = .ok (.if_icmp .lt 5, 3) := by decide +kernel
theorem dX0_pipeReason_64 : decode cX0_pipeReason 64 = .ok (.iconst 4, 1) := by decide +kernel
theorem dX0_pipeReason_65 : decode cX0_pipeReason 65 = .ok (.ireturn, 1) := by decide +kernel
theorem dX0_pipeReason_66 : decode cX0_pipeReason 66 = .ok (.aload_n 0, 1) := by decide +kernel
theorem dX0_pipeReason_67 : decode cX0_pipeReason 67 = .ok (.iload_n 1, 1) := by decide +kernel
theorem dX0_pipeReason_68 : decode cX0_pipeReason 68 = .ok (.invokevirtual 95, 3) := by decide +kernel
theorem dX0_pipeReason_71 : decode cX0_pipeReason 71 = .ok (.aload_n 0, 1) := by decide +kernel
theorem dX0_pipeReason_72 : decode cX0_pipeReason 72 = .ok (.iload_n 2, 1) := by decide +kernel
theorem dX0_pipeReason_73 : decode cX0_pipeReason 73 = .ok (.invokevirtual 95, 3) := by decide +kernel
theorem dX0_pipeReason_76 : decode cX0_pipeReason 76 = .ok (.ior, 1) := by decide +kernel
theorem dX0_pipeReason_77 : decode cX0_pipeReason 77 = .ok (.istore 5, 2) := by decide +kernel
theorem dX0_pipeReason_79 : decode cX0_pipeReason 79 = .ok (.aload_n 0, 1) := by decide +kernel
theorem dX0_pipeReason_80 : decode cX0_pipeReason 80 = .ok (.iload 5, 2) := by decide +kernel
theorem dX0_pipeReason_82 : decode cX0_pipeReason 82 = .ok (.invokevirtual 99, 3) := by decide +kernel
theorem dX0_pipeReason_85 : decode cX0_pipeReason 85 = .ok (.iconst 1, 1) := by decide +kernel
theorem dX0_pipeReason_86 : decode cX0_pipeReason 86 = .ok (.iadd, 1) := by decide +kernel
theorem dX0_pipeReason_87 : decode cX0_pipeReason 87 = .ok (.iload 5, 2) := by decide +kernel
theorem dX0_pipeReason_89 : decode cX0_pipeReason 89 = .ok (.invokestatic 102, 3) := by decide +kernel
theorem dX0_pipeReason_92 : decode cX0_pipeReason 92 = .ok (.if_icmp .le 7, 3) := by decide +kernel
theorem dX0_pipeReason_95 : decode cX0_pipeReason 95 = .ok (.iconst 5, 1) := by decide +kernel
theorem dX0_pipeReason_96 : decode cX0_pipeReason 96 = .ok (.goto 4, 3) := by decide +kernel
theorem dX0_pipeReason_99 : decode cX0_pipeReason 99 = .ok (.iconst 0, 1) := by decide +kernel
theorem dX0_pipeReason_100 : decode cX0_pipeReason 100 = .ok (.ireturn, 1) := by decide +kernel
theorem dX0_stationReason_0 : decode cX0_stationReason 0 = .ok (.iload_n 1, 1) := by decide +kernel
theorem dX0_stationReason_1 : decode cX0_stationReason 1 = .ok (.invokestatic 83, 3) := by decide +kernel
theorem dX0_stationReason_4 : decode cX0_stationReason 4 = .ok (.ifCond .eq 7, 3) := by decide +kernel
theorem dX0_stationReason_7 : decode cX0_stationReason 7 = .ok (.iload_n 1, 1) := by decide +kernel
theorem dX0_stationReason_8 : decode cX0_stationReason 8 = .ok (.ifCond .ne 5, 3) := by decide +kernel
theorem dX0_stationReason_11 : decode cX0_stationReason 11 = .ok (.iconst 1, 1) := by decide +kernel
theorem dX0_stationReason_12 : decode cX0_stationReason 12 = .ok (.ireturn, 1) := by decide +kernel
theorem dX0_stationReason_13 : decode cX0_stationReason 13 = .ok (.iload_n 2, 1) := by decide +kernel
theorem dX0_stationReason_14 : decode cX0_stationReason 14 = .ok (.iconst 1, 1) := by decide +kernel
theorem dX0_stationReason_15 : decode cX0_stationReason 15 = .ok (.bipush 99, 2) := by decide +kernel
theorem dX0_stationReason_17 : decode cX0_stationReason 17 = .ok (.invokestatic 87, 3) := by decide +kernel
theorem dX0_stationReason_20 : decode cX0_stationReason 20 = .ok (.ifCond .eq 28, 3) := by decide +kernel
theorem dX0_stationReason_23 : decode cX0_stationReason 23 = .ok (.iload_n 3, 1) := by decide +kernel
theorem dX0_stationReason_24 : decode cX0_stationReason 24 = .ok (.sipush 200, 3) := by decide +kernel
theorem dX0_stationReason_27 : decode cX0_stationReason 27 = .ok (.sipush 600, 3) := by decide +kernel
theorem dX0_stationReason_30 : decode cX0_stationReason 30 = .ok (.invokestatic 87, 3) := by decide +kernel
theorem dX0_stationReason_33 : decode cX0_stationReason 33 = .ok (.ifCond .eq 15, 3) := by decide +kernel
theorem dX0_stationReason_36 : decode cX0_stationReason 36 = .ok (.iload 4, 2) := by decide +kernel
theorem dX0_stationReason_38 : decode cX0_stationReason 38 = .ok (.iconst 1, 1) := by decide +kernel
theorem dX0_stationReason_39 : decode cX0_stationReason 39 = .ok (.sipush 999, 3) := by decide +kernel
theorem dX0_stationReason_42 : decode cX0_stationReason 42 = .ok (.invokestatic 87, 3) := by decide +kernel
theorem dX0_stationReason_45 : decode cX0_stationReason 45 = .ok (.ifCond .ne 5, 3) := by decide +kernel
theorem dX0_stationReason_48 : decode cX0_stationReason 48 = .ok (.iconst 2, 1) := by decide +kernel
theorem dX0_stationReason_49 : decode cX0_stationReason 49 = .ok (.ireturn, 1) := by decide +kernel
theorem dX0_stationReason_50 : decode cX0_stationReason 50 = .ok (.aload_n 0, 1) := by decide +kernel
theorem dX0_stationReason_51 : decode cX0_stationReason 51 = .ok (.iload_n 1, 1) := by decide +kernel
theorem dX0_stationReason_52 : decode cX0_stationReason 52 = .ok (.invokevirtual 107, 3) := by decide +kernel
theorem dX0_stationReason_55 : decode cX0_stationReason 55 = .ok (.ifCond .eq 8, 3) := by decide +kernel
theorem dX0_stationReason_58 : decode cX0_stationReason 58 = .ok (.bipush 6, 2) := by decide +kernel
theorem dX0_stationReason_60 : decode cX0_stationReason 60 = .ok (.goto 4, 3) := by decide +kernel
theorem dX0_stationReason_63 : decode cX0_stationReason 63 = .ok (.iconst 0, 1) := by decide +kernel
theorem dX0_stationReason_64 : decode cX0_stationReason 64 = .ok (.ireturn, 1) := by decide +kernel
theorem dX0_removalReason_0 : decode cX0_removalReason 0 = .ok (.iload_n 1, 1) := by decide +kernel
theorem dX0_removalReason_1 : decode cX0_removalReason 1 = .ok (.invokestatic 83, 3) := by decide +kernel
theorem dX0_removalReason_4 : decode cX0_removalReason 4 = .ok (.ifCond .eq 7, 3) := by decide +kernel
theorem dX0_removalReason_7 : decode cX0_removalReason 7 = .ok (.iload_n 1, 1) := by decide +kernel
theorem dX0_removalReason_8 : decode cX0_removalReason 8 = .ok (.ifCond .ne 5, 3) := by decide +kernel
theorem dX0_removalReason_11 : decode cX0_removalReason 11 = .ok (.iconst 1, 1) := by decide +kernel
theorem dX0_removalReason_12 : decode cX0_removalReason 12 = .ok (.ireturn, 1) := by decide +kernel
theorem dX0_removalReason_13 : decode cX0_removalReason 13 = .ok (.aload_n 0, 1) := by decide +kernel
theorem dX0_removalReason_14 : decode cX0_removalReason 14 = .ok (.iload_n 1, 1) := by decide +kernel
theorem dX0_removalReason_15 : decode cX0_removalReason 15 = .ok (.invokevirtual 107, 3) := by decide +kernel
theorem dX0_removalReason_18 : decode cX0_removalReason 18 = .ok (.ifCond .eq 7, 3) := by decide +kernel
theorem dX0_removalReason_21 : decode cX0_removalReason 21 = .ok (.iconst 0, 1) := by decide +kernel
theorem dX0_removalReason_22 : decode cX0_removalReason 22 = .ok (.goto 5, 3) := by decide +kernel
theorem dX0_removalReason_25 : decode cX0_removalReason 25 = .ok (.bipush 6, 2) := by decide +kernel
theorem dX0_removalReason_27 : decode cX0_removalReason 27 = .ok (.ireturn, 1) := by decide +kernel
theorem dX0_putPipe_0 : decode cX0_putPipe 0 = .ok (.aload_n 0, 1) := by decide +kernel
theorem dX0_putPipe_1 : decode cX0_putPipe 1 = .ok (.getfield 27, 3) := by decide +kernel
theorem dX0_putPipe_4 : decode cX0_putPipe 4 = .ok (.aload_n 0, 1) := by decide +kernel
theorem dX0_putPipe_5 : decode cX0_putPipe 5 = .ok (.getfield 23, 3) := by decide +kernel
theorem dX0_putPipe_8 : decode cX0_putPipe 8 = .ok (.iload_n 1, 1) := by decide +kernel
theorem dX0_putPipe_9 : decode cX0_putPipe 9 = .ok (.iastore, 1) := by decide +kernel
theorem dX0_putPipe_10 : decode cX0_putPipe 10 = .ok (.aload_n 0, 1) := by decide +kernel
theorem dX0_putPipe_11 : decode cX0_putPipe 11 = .ok (.getfield 30, 3) := by decide +kernel
theorem dX0_putPipe_14 : decode cX0_putPipe 14 = .ok (.aload_n 0, 1) := by decide +kernel
theorem dX0_putPipe_15 : decode cX0_putPipe 15 = .ok (.getfield 23, 3) := by decide +kernel
theorem dX0_putPipe_18 : decode cX0_putPipe 18 = .ok (.iload_n 2, 1) := by decide +kernel
theorem dX0_putPipe_19 : decode cX0_putPipe 19 = .ok (.iastore, 1) := by decide +kernel
theorem dX0_putPipe_20 : decode cX0_putPipe 20 = .ok (.aload_n 0, 1) := by decide +kernel
theorem dX0_putPipe_21 : decode cX0_putPipe 21 = .ok (.getfield 33, 3) := by decide +kernel
theorem dX0_putPipe_24 : decode cX0_putPipe 24 = .ok (.aload_n 0, 1) := by decide +kernel
theorem dX0_putPipe_25 : decode cX0_putPipe 25 = .ok (.getfield 23, 3) := by decide +kernel
theorem dX0_putPipe_28 : decode cX0_putPipe 28 = .ok (.iload_n 3, 1) := by decide +kernel
theorem dX0_putPipe_29 : decode cX0_putPipe 29 = .ok (.iastore, 1) := by decide +kernel
theorem dX0_putPipe_30 : decode cX0_putPipe 30 = .ok (.aload_n 0, 1) := by decide +kernel
theorem dX0_putPipe_31 : decode cX0_putPipe 31 = .ok (.getfield 36, 3) := by decide +kernel
theorem dX0_putPipe_34 : decode cX0_putPipe 34 = .ok (.aload_n 0, 1) := by decide +kernel
theorem dX0_putPipe_35 : decode cX0_putPipe 35 = .ok (.getfield 23, 3) := by decide +kernel
theorem dX0_putPipe_38 : decode cX0_putPipe 38 = .ok (.iload 4, 2) := by decide +kernel
theorem dX0_putPipe_40 : decode cX0_putPipe 40 = .ok (.iastore, 1) := by decide +kernel
theorem dX0_putPipe_41 : decode cX0_putPipe 41 = .ok (.aload_n 0, 1) := by decide +kernel
theorem dX0_putPipe_42 : decode cX0_putPipe 42 = .ok (.dup, 1) := by decide +kernel
theorem dX0_putPipe_43 : decode cX0_putPipe 43 = .ok (.getfield 23, 3) := by decide +kernel
theorem dX0_putPipe_46 : decode cX0_putPipe 46 = .ok (.iconst 1, 1) := by decide +kernel
theorem dX0_putPipe_47 : decode cX0_putPipe 47 = .ok (.iadd, 1) := by decide +kernel
theorem dX0_putPipe_48 : decode cX0_putPipe 48 = .ok (.putfield 23, 3) := by decide +kernel
theorem dX0_putPipe_51 : decode cX0_putPipe 51 = .ok (.return_, 1) := by decide +kernel
theorem dX0_dropPipe_0 : decode cX0_dropPipe 0 = .ok (.aload_n 0, 1) := by decide +kernel
theorem dX0_dropPipe_1 : decode cX0_dropPipe 1 = .ok (.dup, 1) := by decide +kernel
theorem dX0_dropPipe_2 : decode cX0_dropPipe 2 = .ok (.getfield 23, 3) := by decide +kernel
theorem dX0_dropPipe_5 : decode cX0_dropPipe 5 = .ok (.iconst 1, 1) := by decide +kernel
theorem dX0_dropPipe_6 : decode cX0_dropPipe 6 = .ok (.isub, 1) := by decide +kernel
theorem dX0_dropPipe_7 : decode cX0_dropPipe 7 = .ok (.putfield 23, 3) := by decide +kernel
theorem dX0_dropPipe_10 : decode cX0_dropPipe 10 = .ok (.iload_n 1, 1) := by decide +kernel
theorem dX0_dropPipe_11 : decode cX0_dropPipe 11 = .ok (.istore_n 2, 1) := by decide +kernel
theorem dX0_dropPipe_12 : decode cX0_dropPipe 12 = .ok (.iload_n 2, 1) := by decide +kernel
theorem dX0_dropPipe_13 : decode cX0_dropPipe 13 = .ok (.aload_n 0, 1) := by decide +kernel
theorem dX0_dropPipe_14 : decode cX0_dropPipe 14 = .ok (.getfield 23, 3) := by decide +kernel
theorem dX0_dropPipe_17 : decode cX0_dropPipe 17 = .ok (.if_icmp .ge 65, 3) := by decide +kernel
theorem dX0_dropPipe_20 : decode cX0_dropPipe 20 = .ok (.aload_n 0, 1) := by decide +kernel
theorem dX0_dropPipe_21 : decode cX0_dropPipe 21 = .ok (.getfield 27, 3) := by decide +kernel
theorem dX0_dropPipe_24 : decode cX0_dropPipe 24 = .ok (.iload_n 2, 1) := by decide +kernel
theorem dX0_dropPipe_25 : decode cX0_dropPipe 25 = .ok (.aload_n 0, 1) := by decide +kernel
theorem dX0_dropPipe_26 : decode cX0_dropPipe 26 = .ok (.getfield 27, 3) := by decide +kernel
theorem dX0_dropPipe_29 : decode cX0_dropPipe 29 = .ok (.iload_n 2, 1) := by decide +kernel
theorem dX0_dropPipe_30 : decode cX0_dropPipe 30 = .ok (.iconst 1, 1) := by decide +kernel
theorem dX0_dropPipe_31 : decode cX0_dropPipe 31 = .ok (.iadd, 1) := by decide +kernel
theorem dX0_dropPipe_32 : decode cX0_dropPipe 32 = .ok (.iaload, 1) := by decide +kernel
theorem dX0_dropPipe_33 : decode cX0_dropPipe 33 = .ok (.iastore, 1) := by decide +kernel
theorem dX0_dropPipe_34 : decode cX0_dropPipe 34 = .ok (.aload_n 0, 1) := by decide +kernel
theorem dX0_dropPipe_35 : decode cX0_dropPipe 35 = .ok (.getfield 30, 3) := by decide +kernel
theorem dX0_dropPipe_38 : decode cX0_dropPipe 38 = .ok (.iload_n 2, 1) := by decide +kernel
theorem dX0_dropPipe_39 : decode cX0_dropPipe 39 = .ok (.aload_n 0, 1) := by decide +kernel
theorem dX0_dropPipe_40 : decode cX0_dropPipe 40 = .ok (.getfield 30, 3) := by decide +kernel
theorem dX0_dropPipe_43 : decode cX0_dropPipe 43 = .ok (.iload_n 2, 1) := by decide +kernel
theorem dX0_dropPipe_44 : decode cX0_dropPipe 44 = .ok (.iconst 1, 1) := by decide +kernel
theorem dX0_dropPipe_45 : decode cX0_dropPipe 45 = .ok (.iadd, 1) := by decide +kernel
theorem dX0_dropPipe_46 : decode cX0_dropPipe 46 = .ok (.iaload, 1) := by decide +kernel
theorem dX0_dropPipe_47 : decode cX0_dropPipe 47 = .ok (.iastore, 1) := by decide +kernel
theorem dX0_dropPipe_48 : decode cX0_dropPipe 48 = .ok (.aload_n 0, 1) := by decide +kernel
theorem dX0_dropPipe_49 : decode cX0_dropPipe 49 = .ok (.getfield 33, 3) := by decide +kernel
theorem dX0_dropPipe_52 : decode cX0_dropPipe 52 = .ok (.iload_n 2, 1) := by decide +kernel
theorem dX0_dropPipe_53 : decode cX0_dropPipe 53 = .ok (.aload_n 0, 1) := by decide +kernel
theorem dX0_dropPipe_54 : decode cX0_dropPipe 54 = .ok (.getfield 33, 3) := by decide +kernel
theorem dX0_dropPipe_57 : decode cX0_dropPipe 57 = .ok (.iload_n 2, 1) := by decide +kernel
theorem dX0_dropPipe_58 : decode cX0_dropPipe 58 = .ok (.iconst 1, 1) := by decide +kernel
theorem dX0_dropPipe_59 : decode cX0_dropPipe 59 = .ok (.iadd, 1) := by decide +kernel
theorem dX0_dropPipe_60 : decode cX0_dropPipe 60 = .ok (.iaload, 1) := by decide +kernel
theorem dX0_dropPipe_61 : decode cX0_dropPipe 61 = .ok (.iastore, 1) := by decide +kernel
theorem dX0_dropPipe_62 : decode cX0_dropPipe 62 = .ok (.aload_n 0, 1) := by decide +kernel
theorem dX0_dropPipe_63 : decode cX0_dropPipe 63 = .ok (.getfield 36, 3) := by decide +kernel
theorem dX0_dropPipe_66 : decode cX0_dropPipe 66 = .ok (.iload_n 2, 1) := by decide +kernel
theorem dX0_dropPipe_67 : decode cX0_dropPipe 67 = .ok (.aload_n 0, 1) := by decide +kernel
theorem dX0_dropPipe_68 : decode cX0_dropPipe 68 = .ok (.getfield 36, 3) := by decide +kernel
theorem dX0_dropPipe_71 : decode cX0_dropPipe 71 = .ok (.iload_n 2, 1) := by decide +kernel
theorem dX0_dropPipe_72 : decode cX0_dropPipe 72 = .ok (.iconst 1, 1) := by decide +kernel
theorem dX0_dropPipe_73 : decode cX0_dropPipe 73 = .ok (.iadd, 1) := by decide +kernel
theorem dX0_dropPipe_74 : decode cX0_dropPipe 74 = .ok (.iaload, 1) := by decide +kernel
theorem dX0_dropPipe_75 : decode cX0_dropPipe 75 = .ok (.iastore, 1) := by decide +kernel
theorem dX0_dropPipe_76 : decode cX0_dropPipe 76 = .ok (.iinc 2 1, 3) := by decide +kernel
theorem dX0_dropPipe_79 : decode cX0_dropPipe 79 = .ok (.goto (-67), 3) := by decide +kernel
theorem dX0_dropPipe_82 : decode cX0_dropPipe 82 = .ok (.return_, 1) := by decide +kernel
theorem dX0_putStation_0 : decode cX0_putStation 0 = .ok (.aload_n 0, 1) := by decide +kernel
theorem dX0_putStation_1 : decode cX0_putStation 1 = .ok (.getfield 39, 3) := by decide +kernel
theorem dX0_putStation_4 : decode cX0_putStation 4 = .ok (.iload_n 1, 1) := by decide +kernel
theorem dX0_putStation_5 : decode cX0_putStation 5 = .ok (.iload_n 2, 1) := by decide +kernel
theorem dX0_putStation_6 : decode cX0_putStation 6 = .ok (.iastore, 1) := by decide +kernel
theorem dX0_putStation_7 : decode cX0_putStation 7 = .ok (.aload_n 0, 1) := by decide +kernel
theorem dX0_putStation_8 : decode cX0_putStation 8 = .ok (.getfield 42, 3) := by decide +kernel
theorem dX0_putStation_11 : decode cX0_putStation 11 = .ok (.iload_n 1, 1) := by decide +kernel
theorem dX0_putStation_12 : decode cX0_putStation 12 = .ok (.iload_n 3, 1) := by decide +kernel
theorem dX0_putStation_13 : decode cX0_putStation 13 = .ok (.iastore, 1) := by decide +kernel
theorem dX0_putStation_14 : decode cX0_putStation 14 = .ok (.aload_n 0, 1) := by decide +kernel
theorem dX0_putStation_15 : decode cX0_putStation 15 = .ok (.getfield 45, 3) := by decide +kernel
theorem dX0_putStation_18 : decode cX0_putStation 18 = .ok (.iload_n 1, 1) := by decide +kernel
theorem dX0_putStation_19 : decode cX0_putStation 19 = .ok (.iload 4, 2) := by decide +kernel
theorem dX0_putStation_21 : decode cX0_putStation 21 = .ok (.iastore, 1) := by decide +kernel
theorem dX0_putStation_22 : decode cX0_putStation 22 = .ok (.aload_n 0, 1) := by decide +kernel
theorem dX0_putStation_23 : decode cX0_putStation 23 = .ok (.getfield 48, 3) := by decide +kernel
theorem dX0_putStation_26 : decode cX0_putStation 26 = .ok (.iload_n 1, 1) := by decide +kernel
theorem dX0_putStation_27 : decode cX0_putStation 27 = .ok (.iconst 0, 1) := by decide +kernel
theorem dX0_putStation_28 : decode cX0_putStation 28 = .ok (.iastore, 1) := by decide +kernel
theorem dX0_putStation_29 : decode cX0_putStation 29 = .ok (.aload_n 0, 1) := by decide +kernel
theorem dX0_putStation_30 : decode cX0_putStation 30 = .ok (.getfield 51, 3) := by decide +kernel
theorem dX0_putStation_33 : decode cX0_putStation 33 = .ok (.iload_n 1, 1) := by decide +kernel
theorem dX0_putStation_34 : decode cX0_putStation 34 = .ok (.sipush 1000, 3) := by decide +kernel
theorem dX0_putStation_37 : decode cX0_putStation 37 = .ok (.iastore, 1) := by decide +kernel
theorem dX0_putStation_38 : decode cX0_putStation 38 = .ok (.aload_n 0, 1) := by decide +kernel
theorem dX0_putStation_39 : decode cX0_putStation 39 = .ok (.getfield 54, 3) := by decide +kernel
theorem dX0_putStation_42 : decode cX0_putStation 42 = .ok (.iload_n 1, 1) := by decide +kernel
theorem dX0_putStation_43 : decode cX0_putStation 43 = .ok (.lconst 0, 1) := by decide +kernel
theorem dX0_putStation_44 : decode cX0_putStation 44 = .ok (.lastore, 1) := by decide +kernel
theorem dX0_putStation_45 : decode cX0_putStation 45 = .ok (.aload_n 0, 1) := by decide +kernel
theorem dX0_putStation_46 : decode cX0_putStation 46 = .ok (.getfield 58, 3) := by decide +kernel
theorem dX0_putStation_49 : decode cX0_putStation 49 = .ok (.iload_n 1, 1) := by decide +kernel
theorem dX0_putStation_50 : decode cX0_putStation 50 = .ok (.lconst 0, 1) := by decide +kernel
theorem dX0_putStation_51 : decode cX0_putStation 51 = .ok (.lastore, 1) := by decide +kernel
theorem dX0_putStation_52 : decode cX0_putStation 52 = .ok (.aload_n 0, 1) := by decide +kernel
theorem dX0_putStation_53 : decode cX0_putStation 53 = .ok (.getfield 61, 3) := by decide +kernel
theorem dX0_putStation_56 : decode cX0_putStation 56 = .ok (.iload_n 1, 1) := by decide +kernel
theorem dX0_putStation_57 : decode cX0_putStation 57 = .ok (.lconst 0, 1) := by decide +kernel
theorem dX0_putStation_58 : decode cX0_putStation 58 = .ok (.lastore, 1) := by decide +kernel
theorem dX0_putStation_59 : decode cX0_putStation 59 = .ok (.return_, 1) := by decide +kernel
theorem dX0_dropStation_0 : decode cX0_dropStation 0 = .ok (.aload_n 0, 1) := by decide +kernel
theorem dX0_dropStation_1 : decode cX0_dropStation 1 = .ok (.getfield 39, 3) := by decide +kernel
theorem dX0_dropStation_4 : decode cX0_dropStation 4 = .ok (.iload_n 1, 1) := by decide +kernel
theorem dX0_dropStation_5 : decode cX0_dropStation 5 = .ok (.iconst 0, 1) := by decide +kernel
theorem dX0_dropStation_6 : decode cX0_dropStation 6 = .ok (.iastore, 1) := by decide +kernel
theorem dX0_dropStation_7 : decode cX0_dropStation 7 = .ok (.return_, 1) := by decide +kernel
theorem dX0_hasStation_0 : decode cX0_hasStation 0 = .ok (.iload_n 1, 1) := by decide +kernel
theorem dX0_hasStation_1 : decode cX0_hasStation 1 = .ok (.invokestatic 83, 3) := by decide +kernel
theorem dX0_hasStation_4 : decode cX0_hasStation 4 = .ok (.ifCond .eq 16, 3) := by decide +kernel
theorem dX0_hasStation_7 : decode cX0_hasStation 7 = .ok (.aload_n 0, 1) := by decide +kernel
theorem dX0_hasStation_8 : decode cX0_hasStation 8 = .ok (.getfield 39, 3) := by decide +kernel
theorem dX0_hasStation_11 : decode cX0_hasStation 11 = .ok (.iload_n 1, 1) := by decide +kernel
theorem dX0_hasStation_12 : decode cX0_hasStation 12 = .ok (.iaload, 1) := by decide +kernel
theorem dX0_hasStation_13 : decode cX0_hasStation 13 = .ok (.ifCond .le 7, 3) := by decide +kernel
theorem dX0_hasStation_16 : decode cX0_hasStation 16 = .ok (.iconst 1, 1) := by decide +kernel
theorem dX0_hasStation_17 : decode cX0_hasStation 17 = .ok (.goto 4, 3) := by decide +kernel
theorem dX0_hasStation_20 : decode cX0_hasStation 20 = .ok (.iconst 0, 1) := by decide +kernel
theorem dX0_hasStation_21 : decode cX0_hasStation 21 = .ok (.ireturn, 1) := by decide +kernel
theorem dX0_stationCount_0 : decode cX0_stationCount 0 = .ok (.iconst 0, 1) := by decide +kernel
theorem dX0_stationCount_1 : decode cX0_stationCount 1 = .ok (.istore_n 1, 1) := by decide +kernel
theorem dX0_stationCount_2 : decode cX0_stationCount 2 = .ok (.iconst 0, 1) := by decide +kernel
theorem dX0_stationCount_3 : decode cX0_stationCount 3 = .ok (.istore_n 2, 1) := by decide +kernel
theorem dX0_stationCount_4 : decode cX0_stationCount 4 = .ok (.iload_n 2, 1) := by decide +kernel
theorem dX0_stationCount_5 : decode cX0_stationCount 5 = .ok (.bipush 10, 2) := by decide +kernel
theorem dX0_stationCount_7 : decode cX0_stationCount 7 = .ok (.if_icmp .ge 20, 3) := by decide +kernel
theorem dX0_stationCount_10 : decode cX0_stationCount 10 = .ok (.aload_n 0, 1) := by decide +kernel
theorem dX0_stationCount_11 : decode cX0_stationCount 11 = .ok (.iload_n 2, 1) := by decide +kernel
theorem dX0_stationCount_12 : decode cX0_stationCount 12 = .ok (.invokevirtual 107, 3) := by decide +kernel
theorem dX0_stationCount_15 : decode cX0_stationCount 15 = .ok (.ifCond .eq 6, 3) := by decide +kernel
theorem dX0_stationCount_18 : decode cX0_stationCount 18 = .ok (.iinc 1 1, 3) := by decide +kernel
theorem dX0_stationCount_21 : decode cX0_stationCount 21 = .ok (.iinc 2 1, 3) := by decide +kernel
theorem dX0_stationCount_24 : decode cX0_stationCount 24 = .ok (.goto (-20), 3) := by decide +kernel
theorem dX0_stationCount_27 : decode cX0_stationCount 27 = .ok (.iload_n 1, 1) := by decide +kernel
theorem dX0_stationCount_28 : decode cX0_stationCount 28 = .ok (.ireturn, 1) := by decide +kernel
theorem dX0_hasPipe_0 : decode cX0_hasPipe 0 = .ok (.iconst 0, 1) := by decide +kernel
theorem dX0_hasPipe_1 : decode cX0_hasPipe 1 = .ok (.istore_n 3, 1) := by decide +kernel
theorem dX0_hasPipe_2 : decode cX0_hasPipe 2 = .ok (.iload_n 3, 1) := by decide +kernel
theorem dX0_hasPipe_3 : decode cX0_hasPipe 3 = .ok (.aload_n 0, 1) := by decide +kernel
theorem dX0_hasPipe_4 : decode cX0_hasPipe 4 = .ok (.getfield 23, 3) := by decide +kernel
theorem dX0_hasPipe_7 : decode cX0_hasPipe 7 = .ok (.if_icmp .ge 21, 3) := by decide +kernel
theorem dX0_hasPipe_10 : decode cX0_hasPipe 10 = .ok (.aload_n 0, 1) := by decide +kernel
theorem dX0_hasPipe_11 : decode cX0_hasPipe 11 = .ok (.iload_n 3, 1) := by decide +kernel
theorem dX0_hasPipe_12 : decode cX0_hasPipe 12 = .ok (.iload_n 1, 1) := by decide +kernel
theorem dX0_hasPipe_13 : decode cX0_hasPipe 13 = .ok (.invokevirtual 110, 3) := by decide +kernel
theorem dX0_hasPipe_16 : decode cX0_hasPipe 16 = .ok (.iload_n 2, 1) := by decide +kernel
theorem dX0_hasPipe_17 : decode cX0_hasPipe 17 = .ok (.if_icmp .ne 5, 3) := by decide +kernel
theorem dX0_hasPipe_20 : decode cX0_hasPipe 20 = .ok (.iconst 1, 1) := by decide +kernel
theorem dX0_hasPipe_21 : decode cX0_hasPipe 21 = .ok (.ireturn, 1) := by decide +kernel
theorem dX0_hasPipe_22 : decode cX0_hasPipe 22 = .ok (.iinc 3 1, 3) := by decide +kernel
theorem dX0_hasPipe_25 : decode cX0_hasPipe 25 = .ok (.goto (-23), 3) := by decide +kernel
theorem dX0_hasPipe_28 : decode cX0_hasPipe 28 = .ok (.iconst 0, 1) := by decide +kernel
theorem dX0_hasPipe_29 : decode cX0_hasPipe 29 = .ok (.ireturn, 1) := by decide +kernel
theorem dX0_farEnd_0 : decode cX0_farEnd 0 = .ok (.aload_n 0, 1) := by decide +kernel
theorem dX0_farEnd_1 : decode cX0_farEnd 1 = .ok (.getfield 27, 3) := by decide +kernel
theorem dX0_farEnd_4 : decode cX0_farEnd 4 = .ok (.iload_n 1, 1) := by decide +kernel
theorem dX0_farEnd_5 : decode cX0_farEnd 5 = .ok (.iaload, 1) := by decide +kernel
theorem dX0_farEnd_6 : decode cX0_farEnd 6 = .ok (.iload_n 2, 1) := by decide +kernel
theorem dX0_farEnd_7 : decode cX0_farEnd 7 = .ok (.if_icmp .ne 10, 3) := by decide +kernel
theorem dX0_farEnd_10 : decode cX0_farEnd 10 = .ok (.aload_n 0, 1) := by decide +kernel
theorem dX0_farEnd_11 : decode cX0_farEnd 11 = .ok (.getfield 30, 3) := by decide +kernel
theorem dX0_farEnd_14 : decode cX0_farEnd 14 = .ok (.iload_n 1, 1) := by decide +kernel
theorem dX0_farEnd_15 : decode cX0_farEnd 15 = .ok (.iaload, 1) := by decide +kernel
theorem dX0_farEnd_16 : decode cX0_farEnd 16 = .ok (.ireturn, 1) := by decide +kernel
theorem dX0_farEnd_17 : decode cX0_farEnd 17 = .ok (.aload_n 0, 1) := by decide +kernel
theorem dX0_farEnd_18 : decode cX0_farEnd 18 = .ok (.getfield 30, 3) := by decide +kernel
theorem dX0_farEnd_21 : decode cX0_farEnd 21 = .ok (.iload_n 1, 1) := by decide +kernel
theorem dX0_farEnd_22 : decode cX0_farEnd 22 = .ok (.iaload, 1) := by decide +kernel
theorem dX0_farEnd_23 : decode cX0_farEnd 23 = .ok (.iload_n 2, 1) := by decide +kernel
theorem dX0_farEnd_24 : decode cX0_farEnd 24 = .ok (.if_icmp .ne 12, 3) := by decide +kernel
theorem dX0_farEnd_27 : decode cX0_farEnd 27 = .ok (.aload_n 0, 1) := by decide +kernel
theorem dX0_farEnd_28 : decode cX0_farEnd 28 = .ok (.getfield 27, 3) := by decide +kernel
theorem dX0_farEnd_31 : decode cX0_farEnd 31 = .ok (.iload_n 1, 1) := by decide +kernel
theorem dX0_farEnd_32 : decode cX0_farEnd 32 = .ok (.iaload, 1) := by decide +kernel
theorem dX0_farEnd_33 : decode cX0_farEnd 33 = .ok (.goto 4, 3) := by decide +kernel
theorem dX0_farEnd_36 : decode cX0_farEnd 36 = .ok (.iconst (-1), 1) := by decide +kernel
theorem dX0_farEnd_37 : decode cX0_farEnd 37 = .ok (.ireturn, 1) := by decide +kernel
theorem dX0_partOf_0 : decode cX0_partOf 0 = .ok (.iconst 1, 1) := by decide +kernel
theorem dX0_partOf_1 : decode cX0_partOf 1 = .ok (.iload_n 1, 1) := by decide +kernel
theorem dX0_partOf_2 : decode cX0_partOf 2 = .ok (.ishl, 1) := by decide +kernel
theorem dX0_partOf_3 : decode cX0_partOf 3 = .ok (.istore_n 2, 1) := by decide +kernel
theorem dX0_partOf_4 : decode cX0_partOf 4 = .ok (.iconst 0, 1) := by decide +kernel
theorem dX0_partOf_5 : decode cX0_partOf 5 = .ok (.istore_n 3, 1) := by decide +kernel
theorem dX0_partOf_6 : decode cX0_partOf 6 = .ok (.iconst 0, 1) := by decide +kernel
theorem dX0_partOf_7 : decode cX0_partOf 7 = .ok (.istore 4, 2) := by decide +kernel
theorem dX0_partOf_9 : decode cX0_partOf 9 = .ok (.iload 4, 2) := by decide +kernel
theorem dX0_partOf_11 : decode cX0_partOf 11 = .ok (.bipush 10, 2) := by decide +kernel
theorem dX0_partOf_13 : decode cX0_partOf 13 = .ok (.if_icmp .ge 67, 3) := by decide +kernel
theorem dX0_partOf_16 : decode cX0_partOf 16 = .ok (.iload_n 2, 1) := by decide +kernel
theorem dX0_partOf_17 : decode cX0_partOf 17 = .ok (.iload_n 3, 1) := by decide +kernel
theorem dX0_partOf_18 : decode cX0_partOf 18 = .ok (.if_icmp .eq 62, 3) := by decide +kernel
theorem dX0_partOf_21 : decode cX0_partOf 21 = .ok (.iload_n 2, 1) := by decide +kernel
theorem dX0_partOf_22 : decode cX0_partOf 22 = .ok (.istore_n 3, 1) := by decide +kernel
theorem dX0_partOf_23 : decode cX0_partOf 23 = .ok (.iconst 0, 1) := by decide +kernel
theorem dX0_partOf_24 : decode cX0_partOf 24 = .ok (.istore 5, 2) := by decide +kernel
theorem dX0_partOf_26 : decode cX0_partOf 26 = .ok (.iload 5, 2) := by decide +kernel
theorem dX0_partOf_28 : decode cX0_partOf 28 = .ok (.aload_n 0, 1) := by decide +kernel
theorem dX0_partOf_29 : decode cX0_partOf 29 = .ok (.getfield 23, 3) := by decide +kernel
theorem dX0_partOf_32 : decode cX0_partOf 32 = .ok (.if_icmp .ge 42, 3) := by decide +kernel
theorem dX0_partOf_35 : decode cX0_partOf 35 = .ok (.iconst 1, 1) := by decide +kernel
theorem dX0_partOf_36 : decode cX0_partOf 36 = .ok (.aload_n 0, 1) := by decide +kernel
theorem dX0_partOf_37 : decode cX0_partOf 37 = .ok (.getfield 27, 3) := by decide +kernel
theorem dX0_partOf_40 : decode cX0_partOf 40 = .ok (.iload 5, 2) := by decide +kernel
theorem dX0_partOf_42 : decode cX0_partOf 42 = .ok (.iaload, 1) := by decide +kernel
theorem dX0_partOf_43 : decode cX0_partOf 43 = .ok (.ishl, 1) := by decide +kernel
theorem dX0_partOf_44 : decode cX0_partOf 44 = .ok (.iconst 1, 1) := by decide +kernel
theorem dX0_partOf_45 : decode cX0_partOf 45 = .ok (.aload_n 0, 1) := by decide +kernel
theorem dX0_partOf_46 : decode cX0_partOf 46 = .ok (.getfield 30, 3) := by decide +kernel
theorem dX0_partOf_49 : decode cX0_partOf 49 = .ok (.iload 5, 2) := by decide +kernel
theorem dX0_partOf_51 : decode cX0_partOf 51 = .ok (.iaload, 1) := by decide +kernel
theorem dX0_partOf_52 : decode cX0_partOf 52 = .ok (.ishl, 1) := by decide +kernel
theorem dX0_partOf_53 : decode cX0_partOf 53 = .ok (.ior, 1) := by decide +kernel
theorem dX0_partOf_54 : decode cX0_partOf 54 = .ok (.istore 6, 2) := by decide +kernel
theorem dX0_partOf_56 : decode cX0_partOf 56 = .ok (.iload_n 2, 1) := by decide +kernel
theorem dX0_partOf_57 : decode cX0_partOf 57 = .ok (.iload 6, 2) := by decide +kernel
theorem dX0_partOf_59 : decode cX0_partOf 59 = .ok (.iand, 1) := by decide +kernel
theorem dX0_partOf_60 : decode cX0_partOf 60 = .ok (.ifCond .eq 8, 3) := by decide +kernel
theorem dX0_partOf_63 : decode cX0_partOf 63 = .ok (.iload_n 2, 1) := by decide +kernel
theorem dX0_partOf_64 : decode cX0_partOf 64 = .ok (.iload 6, 2) := by decide +kernel
theorem dX0_partOf_66 : decode cX0_partOf 66 = .ok (.ior, 1) := by decide +kernel
theorem dX0_partOf_67 : decode cX0_partOf 67 = .ok (.istore_n 2, 1) := by decide +kernel
theorem dX0_partOf_68 : decode cX0_partOf 68 = .ok (.iinc 5 1, 3) := by decide +kernel
theorem dX0_partOf_71 : decode cX0_partOf 71 = .ok (.goto (-45), 3) := by decide +kernel
theorem dX0_partOf_74 : decode cX0_partOf 74 = .ok (.iinc 4 1, 3) := by decide +kernel
theorem dX0_partOf_77 : decode cX0_partOf 77 = .ok (.goto (-68), 3) := by decide +kernel
theorem dX0_partOf_80 : decode cX0_partOf 80 = .ok (.iload_n 2, 1) := by decide +kernel
theorem dX0_partOf_81 : decode cX0_partOf 81 = .ok (.ireturn, 1) := by decide +kernel
theorem dX0_pipesWithin_0 : decode cX0_pipesWithin 0 = .ok (.iconst 0, 1) := by decide +kernel
theorem dX0_pipesWithin_1 : decode cX0_pipesWithin 1 = .ok (.istore_n 2, 1) := by decide +kernel
theorem dX0_pipesWithin_2 : decode cX0_pipesWithin 2 = .ok (.iconst 0, 1) := by decide +kernel
theorem dX0_pipesWithin_3 : decode cX0_pipesWithin 3 = .ok (.istore_n 3, 1) := by decide +kernel
theorem dX0_pipesWithin_4 : decode cX0_pipesWithin 4 = .ok (.iload_n 3, 1) := by decide +kernel
theorem dX0_pipesWithin_5 : decode cX0_pipesWithin 5 = .ok (.aload_n 0, 1) := by decide +kernel
theorem dX0_pipesWithin_6 : decode cX0_pipesWithin 6 = .ok (.getfield 23, 3) := by decide +kernel
theorem dX0_pipesWithin_9 : decode cX0_pipesWithin 9 = .ok (.if_icmp .ge 25, 3) := by decide +kernel
theorem dX0_pipesWithin_12 : decode cX0_pipesWithin 12 = .ok (.iload_n 1, 1) := by decide +kernel
theorem dX0_pipesWithin_13 : decode cX0_pipesWithin 13 = .ok (.iconst 1, 1) := by decide +kernel
theorem dX0_pipesWithin_14 : decode cX0_pipesWithin 14 = .ok (.aload_n 0, 1) := by decide +kernel
theorem dX0_pipesWithin_15 : decode cX0_pipesWithin 15 = .ok (.getfield 27, 3) := by decide +kernel
theorem dX0_pipesWithin_18 : decode cX0_pipesWithin 18 = .ok (.iload_n 3, 1) := by decide +kernel
theorem dX0_pipesWithin_19 : decode cX0_pipesWithin 19 = .ok (.iaload, 1) := by decide +kernel
theorem dX0_pipesWithin_20 : decode cX0_pipesWithin 20 = .ok (.ishl, 1) := by decide +kernel
theorem dX0_pipesWithin_21 : decode cX0_pipesWithin 21 = .ok (.iand, 1) := by decide +kernel
theorem dX0_pipesWithin_22 : decode cX0_pipesWithin 22 = .ok (.ifCond .eq 6, 3) := by decide +kernel
theorem dX0_pipesWithin_25 : decode cX0_pipesWithin 25 = .ok (.iinc 2 1, 3) := by decide +kernel
theorem dX0_pipesWithin_28 : decode cX0_pipesWithin 28 = .ok (.iinc 3 1, 3) := by decide +kernel
theorem dX0_pipesWithin_31 : decode cX0_pipesWithin 31 = .ok (.goto (-27), 3) := by decide +kernel
theorem dX0_pipesWithin_34 : decode cX0_pipesWithin 34 = .ok (.iload_n 2, 1) := by decide +kernel
theorem dX0_pipesWithin_35 : decode cX0_pipesWithin 35 = .ok (.ireturn, 1) := by decide +kernel
theorem dX0_wantedHeat_0 : decode cX0_wantedHeat 0 = .ok (.aload_n 0, 1) := by decide +kernel
theorem dX0_wantedHeat_1 : decode cX0_wantedHeat 1 = .ok (.getfield 39, 3) := by decide +kernel
theorem dX0_wantedHeat_4 : decode cX0_wantedHeat 4 = .ok (.iload_n 1, 1) := by decide +kernel
theorem dX0_wantedHeat_5 : decode cX0_wantedHeat 5 = .ok (.iaload, 1) := by decide +kernel
theorem dX0_wantedHeat_6 : decode cX0_wantedHeat 6 = .ok (.iconst 0, 1) := by decide +kernel
theorem dX0_wantedHeat_7 : decode cX0_wantedHeat 7 = .ok (.sipush 200, 3) := by decide +kernel
theorem dX0_wantedHeat_10 : decode cX0_wantedHeat 10 = .ok (.aload_n 0, 1) := by decide +kernel
theorem dX0_wantedHeat_11 : decode cX0_wantedHeat 11 = .ok (.getfield 18, 3) := by decide +kernel
theorem dX0_wantedHeat_14 : decode cX0_wantedHeat 14 = .ok (.iconst 2, 1) := by decide +kernel
theorem dX0_wantedHeat_15 : decode cX0_wantedHeat 15 = .ok (.iaload, 1) := by decide +kernel
theorem dX0_wantedHeat_16 : decode cX0_wantedHeat 16 = .ok (.isub, 1) := by decide +kernel
theorem dX0_wantedHeat_17 : decode cX0_wantedHeat 17 = .ok (.invokestatic 114, 3) := by decide +kernel
theorem dX0_wantedHeat_20 : decode cX0_wantedHeat 20 = .ok (.imul, 1) := by decide +kernel
theorem dX0_wantedHeat_21 : decode cX0_wantedHeat 21 = .ok (.ireturn, 1) := by decide +kernel
theorem dX0_tariffOf_0 : decode cX0_tariffOf 0 = .ok (.aload_n 0, 1) := by decide +kernel
theorem dX0_tariffOf_1 : decode cX0_tariffOf 1 = .ok (.getfield 18, 3) := by decide +kernel
theorem dX0_tariffOf_4 : decode cX0_tariffOf 4 = .ok (.bipush 6, 2) := by decide +kernel
theorem dX0_tariffOf_6 : decode cX0_tariffOf 6 = .ok (.iaload, 1) := by decide +kernel
theorem dX0_tariffOf_7 : decode cX0_tariffOf 7 = .ok (.aload_n 0, 1) := by decide +kernel
theorem dX0_tariffOf_8 : decode cX0_tariffOf 8 = .ok (.getfield 42, 3) := by decide +kernel
theorem dX0_tariffOf_11 : decode cX0_tariffOf 11 = .ok (.iload_n 1, 1) := by decide +kernel
theorem dX0_tariffOf_12 : decode cX0_tariffOf 12 = .ok (.iaload, 1) := by decide +kernel
theorem dX0_tariffOf_13 : decode cX0_tariffOf 13 = .ok (.sipush 400, 3) := by decide +kernel
theorem dX0_tariffOf_16 : decode cX0_tariffOf 16 = .ok (.isub, 1) := by decide +kernel
theorem dX0_tariffOf_17 : decode cX0_tariffOf 17 = .ok (.imul, 1) := by decide +kernel
theorem dX0_tariffOf_18 : decode cX0_tariffOf 18 = .ok (.bipush 10, 2) := by decide +kernel
theorem dX0_tariffOf_20 : decode cX0_tariffOf 20 = .ok (.invokestatic 119, 3) := by decide +kernel
theorem dX0_tariffOf_23 : decode cX0_tariffOf 23 = .ok (.istore_n 2, 1) := by decide +kernel
theorem dX0_tariffOf_24 : decode cX0_tariffOf 24 = .ok (.iconst 0, 1) := by decide +kernel
theorem dX0_tariffOf_25 : decode cX0_tariffOf 25 = .ok (.aload_n 0, 1) := by decide +kernel
theorem dX0_tariffOf_26 : decode cX0_tariffOf 26 = .ok (.getfield 18, 3) := by decide +kernel
theorem dX0_tariffOf_29 : decode cX0_tariffOf 29 = .ok (.iconst 5, 1) := by decide +kernel
theorem dX0_tariffOf_30 : decode cX0_tariffOf 30 = .ok (.iaload, 1) := by decide +kernel
theorem dX0_tariffOf_31 : decode cX0_tariffOf 31 = .ok (.iload_n 2, 1) := by decide +kernel
theorem dX0_tariffOf_32 : decode cX0_tariffOf 32 = .ok (.iadd, 1) := by decide +kernel
theorem dX0_tariffOf_33 : decode cX0_tariffOf 33 = .ok (.invokestatic 114, 3) := by decide +kernel
theorem dX0_tariffOf_36 : decode cX0_tariffOf 36 = .ok (.ireturn, 1) := by decide +kernel
theorem dX0_countedHeat_0 : decode cX0_countedHeat 0 = .ok (.aload_n 0, 1) := by decide +kernel
theorem dX0_countedHeat_1 : decode cX0_countedHeat 1 = .ok (.getfield 48, 3) := by decide +kernel
theorem dX0_countedHeat_4 : decode cX0_countedHeat 4 = .ok (.iload_n 1, 1) := by decide +kernel
theorem dX0_countedHeat_5 : decode cX0_countedHeat 5 = .ok (.iaload, 1) := by decide +kernel
theorem dX0_countedHeat_6 : decode cX0_countedHeat 6 = .ok (.lookupswitch 44 #[(1, 26), (2, 28)], 26) := by decide +kernel
theorem dX0_countedHeat_32 : decode cX0_countedHeat 32 = .ok (.lconst 0, 1) := by decide +kernel
theorem dX0_countedHeat_33 : decode cX0_countedHeat 33 = .ok (.lreturn, 1) := by decide +kernel
theorem dX0_countedHeat_34 : decode cX0_countedHeat 34 = .ok (.lload_n 2, 1) := by decide +kernel
theorem dX0_countedHeat_35 : decode cX0_countedHeat 35 = .ok (.aload_n 0, 1) := by decide +kernel
theorem dX0_countedHeat_36 : decode cX0_countedHeat 36 = .ok (.getfield 51, 3) := by decide +kernel
theorem dX0_countedHeat_39 : decode cX0_countedHeat 39 = .ok (.iload_n 1, 1) := by decide +kernel
theorem dX0_countedHeat_40 : decode cX0_countedHeat 40 = .ok (.iaload, 1) := by decide +kernel
theorem dX0_countedHeat_41 : decode cX0_countedHeat 41 = .ok (.i2l, 1) := by decide +kernel
theorem dX0_countedHeat_42 : decode cX0_countedHeat 42 = .ok (.lmul, 1) := by decide +kernel
theorem dX0_countedHeat_43 : decode cX0_countedHeat 43 = .ok (.ldc2_w 122, 3) := by decide +kernel
theorem dX0_countedHeat_46 : decode cX0_countedHeat 46 = .ok (.invokestatic 124, 3) := by decide +kernel
theorem dX0_countedHeat_49 : decode cX0_countedHeat 49 = .ok (.lreturn, 1) := by decide +kernel
theorem dX0_countedHeat_50 : decode cX0_countedHeat 50 = .ok (.lload_n 2, 1) := by decide +kernel
theorem dX0_countedHeat_51 : decode cX0_countedHeat 51 = .ok (.lreturn, 1) := by decide +kernel
theorem dX0_paymentFor_0 : decode cX0_paymentFor 0 = .ok (.lload_n 2, 1) := by decide +kernel
theorem dX0_paymentFor_1 : decode cX0_paymentFor 1 = .ok (.aload_n 0, 1) := by decide +kernel
theorem dX0_paymentFor_2 : decode cX0_paymentFor 2 = .ok (.iload_n 1, 1) := by decide +kernel
theorem dX0_paymentFor_3 : decode cX0_paymentFor 3 = .ok (.invokevirtual 127, 3) := by decide +kernel
theorem dX0_paymentFor_6 : decode cX0_paymentFor 6 = .ok (.i2l, 1) := by decide +kernel
theorem dX0_paymentFor_7 : decode cX0_paymentFor 7 = .ok (.lmul, 1) := by decide +kernel
theorem dX0_paymentFor_8 : decode cX0_paymentFor 8 = .ok (.ldc2_w 122, 3) := by decide +kernel
theorem dX0_paymentFor_11 : decode cX0_paymentFor 11 = .ok (.invokestatic 124, 3) := by decide +kernel
theorem dX0_paymentFor_14 : decode cX0_paymentFor 14 = .ok (.lreturn, 1) := by decide +kernel
theorem dX0_dropOf_0 : decode cX0_dropOf 0 = .ok (.aload_n 0, 1) := by decide +kernel
theorem dX0_dropOf_1 : decode cX0_dropOf 1 = .ok (.getfield 33, 3) := by decide +kernel
theorem dX0_dropOf_4 : decode cX0_dropOf 4 = .ok (.iload_n 1, 1) := by decide +kernel
theorem dX0_dropOf_5 : decode cX0_dropOf 5 = .ok (.iaload, 1) := by decide +kernel
theorem dX0_dropOf_6 : decode cX0_dropOf 6 = .ok (.aload_n 0, 1) := by decide +kernel
theorem dX0_dropOf_7 : decode cX0_dropOf 7 = .ok (.getfield 36, 3) := by decide +kernel
theorem dX0_dropOf_10 : decode cX0_dropOf 10 = .ok (.iload_n 1, 1) := by decide +kernel
theorem dX0_dropOf_11 : decode cX0_dropOf 11 = .ok (.iaload, 1) := by decide +kernel
theorem dX0_dropOf_12 : decode cX0_dropOf 12 = .ok (.imul, 1) := by decide +kernel
theorem dX0_dropOf_13 : decode cX0_dropOf 13 = .ok (.i2l, 1) := by decide +kernel
theorem dX0_dropOf_14 : decode cX0_dropOf 14 = .ok (.lstore_n 3, 1) := by decide +kernel
theorem dX0_dropOf_15 : decode cX0_dropOf 15 = .ok (.lload_n 3, 1) := by decide +kernel
theorem dX0_dropOf_16 : decode cX0_dropOf 16 = .ok (.iload_n 2, 1) := by decide +kernel
theorem dX0_dropOf_17 : decode cX0_dropOf 17 = .ok (.i2l, 1) := by decide +kernel
theorem dX0_dropOf_18 : decode cX0_dropOf 18 = .ok (.lmul, 1) := by decide +kernel
theorem dX0_dropOf_19 : decode cX0_dropOf 19 = .ok (.iload_n 2, 1) := by decide +kernel
theorem dX0_dropOf_20 : decode cX0_dropOf 20 = .ok (.invokestatic 130, 3) := by decide +kernel
theorem dX0_dropOf_23 : decode cX0_dropOf 23 = .ok (.i2l, 1) := by decide +kernel
theorem dX0_dropOf_24 : decode cX0_dropOf 24 = .ok (.lmul, 1) := by decide +kernel
theorem dX0_dropOf_25 : decode cX0_dropOf 25 = .ok (.lreturn, 1) := by decide +kernel
theorem dX0_cooled_0 : decode cX0_cooled 0 = .ok (.aload_n 0, 1) := by decide +kernel
theorem dX0_cooled_1 : decode cX0_cooled 1 = .ok (.getfield 18, 3) := by decide +kernel
theorem dX0_cooled_4 : decode cX0_cooled 4 = .ok (.iconst 1, 1) := by decide +kernel
theorem dX0_cooled_5 : decode cX0_cooled 5 = .ok (.iaload, 1) := by decide +kernel
theorem dX0_cooled_6 : decode cX0_cooled 6 = .ok (.istore 4, 2) := by decide +kernel
theorem dX0_cooled_8 : decode cX0_cooled 8 = .ok (.ldc2_w 133, 3) := by decide +kernel
theorem dX0_cooled_11 : decode cX0_cooled 11 = .ok (.iload_n 2, 1) := by decide +kernel
theorem dX0_cooled_12 : decode cX0_cooled 12 = .ok (.i2l, 1) := by decide +kernel
theorem dX0_cooled_13 : decode cX0_cooled 13 = .ok (.lmul, 1) := by decide +kernel
theorem dX0_cooled_14 : decode cX0_cooled 14 = .ok (.lstore 5, 2) := by decide +kernel
theorem dX0_cooled_16 : decode cX0_cooled 16 = .ok (.lload 5, 2) := by decide +kernel
theorem dX0_cooled_18 : decode cX0_cooled 18 = .ok (.aload_n 0, 1) := by decide +kernel
theorem dX0_cooled_19 : decode cX0_cooled 19 = .ok (.getfield 33, 3) := by decide +kernel
theorem dX0_cooled_22 : decode cX0_cooled 22 = .ok (.iload_n 1, 1) := by decide +kernel
theorem dX0_cooled_23 : decode cX0_cooled 23 = .ok (.iaload, 1) := by decide +kernel
theorem dX0_cooled_24 : decode cX0_cooled 24 = .ok (.aload_n 0, 1) := by decide +kernel
theorem dX0_cooled_25 : decode cX0_cooled 25 = .ok (.getfield 18, 3) := by decide +kernel
theorem dX0_cooled_28 : decode cX0_cooled 28 = .ok (.iconst 3, 1) := by decide +kernel
theorem dX0_cooled_29 : decode cX0_cooled 29 = .ok (.iaload, 1) := by decide +kernel
theorem dX0_cooled_30 : decode cX0_cooled 30 = .ok (.imul, 1) := by decide +kernel
theorem dX0_cooled_31 : decode cX0_cooled 31 = .ok (.i2l, 1) := by decide +kernel
theorem dX0_cooled_32 : decode cX0_cooled 32 = .ok (.ladd, 1) := by decide +kernel
theorem dX0_cooled_33 : decode cX0_cooled 33 = .ok (.lstore 7, 2) := by decide +kernel
theorem dX0_cooled_35 : decode cX0_cooled 35 = .ok (.lload 7, 2) := by decide +kernel
theorem dX0_cooled_37 : decode cX0_cooled 37 = .ok (.lconst 0, 1) := by decide +kernel
theorem dX0_cooled_38 : decode cX0_cooled 38 = .ok (.lcmp, 1) := by decide +kernel
theorem dX0_cooled_39 : decode cX0_cooled 39 = .ok (.ifCond .gt 7, 3) := by decide +kernel
theorem dX0_cooled_42 : decode cX0_cooled 42 = .ok (.iload_n 3, 1) := by decide +kernel
theorem dX0_cooled_43 : decode cX0_cooled 43 = .ok (.goto 18, 3) := by decide +kernel
theorem dX0_cooled_46 : decode cX0_cooled 46 = .ok (.iload 4, 2) := by decide +kernel
theorem dX0_cooled_48 : decode cX0_cooled 48 = .ok (.iload_n 3, 1) := by decide +kernel
theorem dX0_cooled_49 : decode cX0_cooled 49 = .ok (.iload 4, 2) := by decide +kernel
theorem dX0_cooled_51 : decode cX0_cooled 51 = .ok (.isub, 1) := by decide +kernel
theorem dX0_cooled_52 : decode cX0_cooled 52 = .ok (.i2l, 1) := by decide +kernel
theorem dX0_cooled_53 : decode cX0_cooled 53 = .ok (.lload 5, 2) := by decide +kernel
theorem dX0_cooled_55 : decode cX0_cooled 55 = .ok (.lmul, 1) := by decide +kernel
theorem dX0_cooled_56 : decode cX0_cooled 56 = .ok (.lload 7, 2) := by decide +kernel
theorem dX0_cooled_58 : decode cX0_cooled 58 = .ok (.ldiv, 1) := by decide +kernel
theorem dX0_cooled_59 : decode cX0_cooled 59 = .ok (.l2i, 1) := by decide +kernel
theorem dX0_cooled_60 : decode cX0_cooled 60 = .ok (.iadd, 1) := by decide +kernel
theorem dX0_cooled_61 : decode cX0_cooled 61 = .ok (.ireturn, 1) := by decide +kernel
theorem dX1_init_0 : decode cX1_init 0 = .ok (.aload_n 0, 1) := by decide +kernel
theorem dX1_init_1 : decode cX1_init 1 = .ok (.invokespecial 3, 3) := by decide +kernel
theorem dX1_init_4 : decode cX1_init 4 = .ok (.aload_n 0, 1) := by decide +kernel
theorem dX1_init_5 : decode cX1_init 5 = .ok (.bipush 10, 2) := by decide +kernel
theorem dX1_init_7 : decode cX1_init 7 = .ok (.newarray .int, 2) := by decide +kernel
theorem dX1_init_9 : decode cX1_init 9 = .ok (.putfield 9, 3) := by decide +kernel
theorem dX1_init_12 : decode cX1_init 12 = .ok (.aload_n 0, 1) := by decide +kernel
theorem dX1_init_13 : decode cX1_init 13 = .ok (.bipush 10, 2) := by decide +kernel
theorem dX1_init_15 : decode cX1_init 15 = .ok (.newarray .int, 2) := by decide +kernel
theorem dX1_init_17 : decode cX1_init 17 = .ok (.putfield 15, 3) := by decide +kernel
theorem dX1_init_20 : decode cX1_init 20 = .ok (.aload_n 0, 1) := by decide +kernel
theorem dX1_init_21 : decode cX1_init 21 = .ok (.iconst 0, 1) := by decide +kernel
theorem dX1_init_22 : decode cX1_init 22 = .ok (.putfield 18, 3) := by decide +kernel
theorem dX1_init_25 : decode cX1_init 25 = .ok (.aload_n 0, 1) := by decide +kernel
theorem dX1_init_26 : decode cX1_init 26 = .ok (.bipush 10, 2) := by decide +kernel
theorem dX1_init_28 : decode cX1_init 28 = .ok (.newarray .int, 2) := by decide +kernel
theorem dX1_init_30 : decode cX1_init 30 = .ok (.putfield 22, 3) := by decide +kernel
theorem dX1_init_33 : decode cX1_init 33 = .ok (.aload_n 0, 1) := by decide +kernel
theorem dX1_init_34 : decode cX1_init 34 = .ok (.bipush 10, 2) := by decide +kernel
theorem dX1_init_36 : decode cX1_init 36 = .ok (.newarray .int, 2) := by decide +kernel
theorem dX1_init_38 : decode cX1_init 38 = .ok (.putfield 25, 3) := by decide +kernel
theorem dX1_init_41 : decode cX1_init 41 = .ok (.aload_n 0, 1) := by decide +kernel
theorem dX1_init_42 : decode cX1_init 42 = .ok (.bipush 10, 2) := by decide +kernel
theorem dX1_init_44 : decode cX1_init 44 = .ok (.newarray .int, 2) := by decide +kernel
theorem dX1_init_46 : decode cX1_init 46 = .ok (.putfield 28, 3) := by decide +kernel
theorem dX1_init_49 : decode cX1_init 49 = .ok (.aload_n 0, 1) := by decide +kernel
theorem dX1_init_50 : decode cX1_init 50 = .ok (.bipush 10, 2) := by decide +kernel
theorem dX1_init_52 : decode cX1_init 52 = .ok (.newarray .int, 2) := by decide +kernel
theorem dX1_init_54 : decode cX1_init 54 = .ok (.putfield 31, 3) := by decide +kernel
theorem dX1_init_57 : decode cX1_init 57 = .ok (.aload_n 0, 1) := by decide +kernel
theorem dX1_init_58 : decode cX1_init 58 = .ok (.bipush 10, 2) := by decide +kernel
theorem dX1_init_60 : decode cX1_init 60 = .ok (.newarray .int, 2) := by decide +kernel
theorem dX1_init_62 : decode cX1_init 62 = .ok (.putfield 34, 3) := by decide +kernel
theorem dX1_init_65 : decode cX1_init 65 = .ok (.aload_n 0, 1) := by decide +kernel
theorem dX1_init_66 : decode cX1_init 66 = .ok (.iconst 0, 1) := by decide +kernel
theorem dX1_init_67 : decode cX1_init 67 = .ok (.putfield 37, 3) := by decide +kernel
theorem dX1_init_70 : decode cX1_init 70 = .ok (.aload_n 0, 1) := by decide +kernel
theorem dX1_init_71 : decode cX1_init 71 = .ok (.bipush 10, 2) := by decide +kernel
theorem dX1_init_73 : decode cX1_init 73 = .ok (.newarray .boolean, 2) := by decide +kernel
theorem dX1_init_75 : decode cX1_init 75 = .ok (.putfield 40, 3) := by decide +kernel
theorem dX1_init_78 : decode cX1_init 78 = .ok (.return_, 1) := by decide +kernel
theorem dX1_follow_0 : decode cX1_follow 0 = .ok (.aload_n 0, 1) := by decide +kernel
theorem dX1_follow_1 : decode cX1_follow 1 = .ok (.aload_n 1, 1) := by decide +kernel
theorem dX1_follow_2 : decode cX1_follow 2 = .ok (.invokevirtual 44, 3) := by decide +kernel
theorem dX1_follow_5 : decode cX1_follow 5 = .ok (.aload_n 0, 1) := by decide +kernel
theorem dX1_follow_6 : decode cX1_follow 6 = .ok (.aload_n 1, 1) := by decide +kernel
theorem dX1_follow_7 : decode cX1_follow 7 = .ok (.invokevirtual 48, 3) := by decide +kernel
theorem dX1_follow_10 : decode cX1_follow 10 = .ok (.iconst 1, 1) := by decide +kernel
theorem dX1_follow_11 : decode cX1_follow 11 = .ok (.istore_n 2, 1) := by decide +kernel
theorem dX1_follow_12 : decode cX1_follow 12 = .ok (.iload_n 2, 1) := by decide +kernel
theorem dX1_follow_13 : decode cX1_follow 13 = .ok (.aload_n 0, 1) := by decide +kernel
theorem dX1_follow_14 : decode cX1_follow 14 = .ok (.getfield 37, 3) := by decide +kernel
theorem dX1_follow_17 : decode cX1_follow 17 = .ok (.if_icmp .ge 62, 3) := by decide +kernel
theorem dX1_follow_20 : decode cX1_follow 20 = .ok (.aload_n 0, 1) := by decide +kernel
theorem dX1_follow_21 : decode cX1_follow 21 = .ok (.getfield 22, 3) := by decide +kernel
theorem dX1_follow_24 : decode cX1_follow 24 = .ok (.aload_n 0, 1) := by decide +kernel
theorem dX1_follow_25 : decode cX1_follow 25 = .ok (.getfield 31, 3) := by decide +kernel
theorem dX1_follow_28 : decode cX1_follow 28 = .ok (.iload_n 2, 1) := by decide +kernel
theorem dX1_follow_29 : decode cX1_follow 29 = .ok (.iaload, 1) := by decide +kernel
theorem dX1_follow_30 : decode cX1_follow 30 = .ok (.aload_n 0, 1) := by decide +kernel
theorem dX1_follow_31 : decode cX1_follow 31 = .ok (.getfield 31, 3) := by decide +kernel
theorem dX1_follow_34 : decode cX1_follow 34 = .ok (.iconst 0, 1) := by decide +kernel
theorem dX1_follow_35 : decode cX1_follow 35 = .ok (.iaload, 1) := by decide +kernel
theorem dX1_follow_36 : decode cX1_follow 36 = .ok (.iastore, 1) := by decide +kernel
theorem dX1_follow_37 : decode cX1_follow 37 = .ok (.aload_n 0, 1) := by decide +kernel
theorem dX1_follow_38 : decode cX1_follow 38 = .ok (.getfield 25, 3) := by decide +kernel
theorem dX1_follow_41 : decode cX1_follow 41 = .ok (.aload_n 0, 1) := by decide +kernel
theorem dX1_follow_42 : decode cX1_follow 42 = .ok (.getfield 31, 3) := by decide +kernel
theorem dX1_follow_45 : decode cX1_follow 45 = .ok (.iload_n 2, 1) := by decide +kernel
theorem dX1_follow_46 : decode cX1_follow 46 = .ok (.iaload, 1) := by decide +kernel
theorem dX1_follow_47 : decode cX1_follow 47 = .ok (.aload_n 0, 1) := by decide +kernel
theorem dX1_follow_48 : decode cX1_follow 48 = .ok (.getfield 34, 3) := by decide +kernel
theorem dX1_follow_51 : decode cX1_follow 51 = .ok (.iload_n 2, 1) := by decide +kernel
theorem dX1_follow_52 : decode cX1_follow 52 = .ok (.iconst 1, 1) := by decide +kernel
theorem dX1_follow_53 : decode cX1_follow 53 = .ok (.isub, 1) := by decide +kernel
theorem dX1_follow_54 : decode cX1_follow 54 = .ok (.iaload, 1) := by decide +kernel
theorem dX1_follow_55 : decode cX1_follow 55 = .ok (.iastore, 1) := by decide +kernel
theorem dX1_follow_56 : decode cX1_follow 56 = .ok (.aload_n 0, 1) := by decide +kernel
theorem dX1_follow_57 : decode cX1_follow 57 = .ok (.getfield 28, 3) := by decide +kernel
theorem dX1_follow_60 : decode cX1_follow 60 = .ok (.aload_n 0, 1) := by decide +kernel
theorem dX1_follow_61 : decode cX1_follow 61 = .ok (.getfield 31, 3) := by decide +kernel
theorem dX1_follow_64 : decode cX1_follow 64 = .ok (.iload_n 2, 1) := by decide +kernel
theorem dX1_follow_65 : decode cX1_follow 65 = .ok (.iaload, 1) := by decide +kernel
theorem dX1_follow_66 : decode cX1_follow 66 = .ok (.aload_n 0, 1) := by decide +kernel
theorem dX1_follow_67 : decode cX1_follow 67 = .ok (.getfield 34, 3) := by decide +kernel
theorem dX1_follow_70 : decode cX1_follow 70 = .ok (.iload_n 2, 1) := by decide +kernel
theorem dX1_follow_71 : decode cX1_follow 71 = .ok (.iaload, 1) := by decide +kernel
theorem dX1_follow_72 : decode cX1_follow 72 = .ok (.iastore, 1) := by decide +kernel
theorem dX1_follow_73 : decode cX1_follow 73 = .ok (.iinc 2 1, 3) := by decide +kernel
theorem dX1_follow_76 : decode cX1_follow 76 = .ok (.goto (-64), 3) := by decide +kernel
theorem dX1_follow_79 : decode cX1_follow 79 = .ok (.return_, 1) := by decide +kernel
theorem dX1_isLoopBeginning_0 : decode cX1_isLoopBeginning 0 = .ok (.aload_n 0, 1) := by decide +kernel
theorem dX1_isLoopBeginning_1 : decode cX1_isLoopBeginning 1 = .ok (.getfield 37, 3) := by decide +kernel
theorem dX1_isLoopBeginning_4 : decode cX1_isLoopBeginning 4 = .ok (.ifCond .le 17, 3) := by decide +kernel
theorem dX1_isLoopBeginning_7 : decode cX1_isLoopBeginning 7 = .ok (.aload_n 0, 1) := by decide +kernel
theorem dX1_isLoopBeginning_8 : decode cX1_isLoopBeginning 8 = .ok (.getfield 31, 3) := by decide +kernel
theorem dX1_isLoopBeginning_11 : decode cX1_isLoopBeginning 11 = .ok (.iconst 0, 1) := by decide +kernel
theorem dX1_isLoopBeginning_12 : decode cX1_isLoopBeginning 12 = .ok (.iaload, 1) := by decide +kernel
theorem dX1_isLoopBeginning_13 : decode cX1_isLoopBeginning 13 = .ok (.iload_n 1, 1) := by decide +kernel
theorem dX1_isLoopBeginning_14 : decode cX1_isLoopBeginning 14 = .ok (.if_icmp .ne 7, 3) := by decide +kernel
theorem dX1_isLoopBeginning_17 : decode cX1_isLoopBeginning 17 = .ok (.iconst 1, 1) := by decide +kernel
theorem dX1_isLoopBeginning_18 : decode cX1_isLoopBeginning 18 = .ok (.goto 4, 3) := by decide +kernel
theorem dX1_isLoopBeginning_21 : decode cX1_isLoopBeginning 21 = .ok (.iconst 0, 1) := by decide +kernel
theorem dX1_isLoopBeginning_22 : decode cX1_isLoopBeginning 22 = .ok (.ireturn, 1) := by decide +kernel
theorem dX1_findDistances_0 : decode cX1_findDistances 0 = .ok (.aload_n 0, 1) := by decide +kernel
theorem dX1_findDistances_1 : decode cX1_findDistances 1 = .ok (.getfield 9, 3) := by decide +kernel
theorem dX1_findDistances_4 : decode cX1_findDistances 4 = .ok (.iconst (-1), 1) := by decide +kernel
theorem dX1_findDistances_5 : decode cX1_findDistances 5 = .ok (.invokestatic 51, 3) := by decide +kernel
theorem dX1_findDistances_8 : decode cX1_findDistances 8 = .ok (.aload_n 0, 1) := by decide +kernel
theorem dX1_findDistances_9 : decode cX1_findDistances 9 = .ok (.getfield 22, 3) := by decide +kernel
theorem dX1_findDistances_12 : decode cX1_findDistances 12 = .ok (.iconst (-1), 1) := by decide +kernel
theorem dX1_findDistances_13 : decode cX1_findDistances 13 = .ok (.invokestatic 51, 3) := by decide +kernel
theorem dX1_findDistances_16 : decode cX1_findDistances 16 = .ok (.aload_n 0, 1) := by decide +kernel
theorem dX1_findDistances_17 : decode cX1_findDistances 17 = .ok (.getfield 25, 3) := by decide +kernel
theorem dX1_findDistances_20 : decode cX1_findDistances 20 = .ok (.iconst (-1), 1) := by decide +kernel
theorem dX1_findDistances_21 : decode cX1_findDistances 21 = .ok (.invokestatic 51, 3) := by decide +kernel
theorem dX1_findDistances_24 : decode cX1_findDistances 24 = .ok (.aload_n 0, 1) := by decide +kernel
theorem dX1_findDistances_25 : decode cX1_findDistances 25 = .ok (.getfield 28, 3) := by decide +kernel
theorem dX1_findDistances_28 : decode cX1_findDistances 28 = .ok (.iconst (-1), 1) := by decide +kernel
theorem dX1_findDistances_29 : decode cX1_findDistances 29 = .ok (.invokestatic 51, 3) := by decide +kernel
theorem dX1_findDistances_32 : decode cX1_findDistances 32 = .ok (.aload_n 0, 1) := by decide +kernel
theorem dX1_findDistances_33 : decode cX1_findDistances 33 = .ok (.getfield 9, 3) := by decide +kernel
theorem dX1_findDistances_36 : decode cX1_findDistances 36 = .ok (.iconst 0, 1) := by decide +kernel
theorem dX1_findDistances_37 : decode cX1_findDistances 37 = .ok (.iconst 0, 1) := by decide +kernel
theorem dX1_findDistances_38 : decode cX1_findDistances 38 = .ok (.iastore, 1) := by decide +kernel
theorem dX1_findDistances_39 : decode cX1_findDistances 39 = .ok (.aload_n 0, 1) := by decide +kernel
theorem dX1_findDistances_40 : decode cX1_findDistances 40 = .ok (.getfield 15, 3) := by decide +kernel
theorem dX1_findDistances_43 : decode cX1_findDistances 43 = .ok (.iconst 0, 1) := by decide +kernel
theorem dX1_findDistances_44 : decode cX1_findDistances 44 = .ok (.iconst 0, 1) := by decide +kernel
theorem dX1_findDistances_45 : decode cX1_findDistances 45 = .ok (.iastore, 1) := by decide +kernel
theorem dX1_findDistances_46 : decode cX1_findDistances 46 = .ok (.aload_n 0, 1) := by decide +kernel
theorem dX1_findDistances_47 : decode cX1_findDistances 47 = .ok (.iconst 1, 1) := by decide +kernel
theorem dX1_findDistances_48 : decode cX1_findDistances 48 = .ok (.putfield 18, 3) := by decide +kernel
theorem dX1_findDistances_51 : decode cX1_findDistances 51 = .ok (.iconst 0, 1) := by decide +kernel
theorem dX1_findDistances_52 : decode cX1_findDistances 52 = .ok (.istore_n 2, 1) := by decide +kernel
theorem dX1_findDistances_53 : decode cX1_findDistances 53 = .ok (.iload_n 2, 1) := by decide +kernel
theorem dX1_findDistances_54 : decode cX1_findDistances 54 = .ok (.bipush 10, 2) := by decide +kernel
theorem dX1_findDistances_56 : decode cX1_findDistances 56 = .ok (.if_icmp .ge 131, 3) := by decide +kernel
theorem dX1_findDistances_59 : decode cX1_findDistances 59 = .ok (.iload_n 2, 1) := by decide +kernel
theorem dX1_findDistances_60 : decode cX1_findDistances 60 = .ok (.aload_n 0, 1) := by decide +kernel
theorem dX1_findDistances_61 : decode cX1_findDistances 61 = .ok (.getfield 18, 3) := by decide +kernel
theorem dX1_findDistances_64 : decode cX1_findDistances 64 = .ok (.if_icmp .ge 123, 3) := by decide +kernel
theorem dX1_findDistances_67 : decode cX1_findDistances 67 = .ok (.aload_n 0, 1) := by decide +kernel
theorem dX1_findDistances_68 : decode cX1_findDistances 68 = .ok (.getfield 15, 3) := by decide +kernel
theorem dX1_findDistances_71 : decode cX1_findDistances 71 = .ok (.iload_n 2, 1) := by decide +kernel
theorem dX1_findDistances_72 : decode cX1_findDistances 72 = .ok (.iaload, 1) := by decide +kernel
theorem dX1_findDistances_73 : decode cX1_findDistances 73 = .ok (.istore_n 3, 1) := by decide +kernel
theorem dX1_findDistances_74 : decode cX1_findDistances 74 = .ok (.iconst 0, 1) := by decide +kernel
theorem dX1_findDistances_75 : decode cX1_findDistances 75 = .ok (.istore 4, 2) := by decide +kernel
theorem dX1_findDistances_77 : decode cX1_findDistances 77 = .ok (.iload 4, 2) := by decide +kernel
theorem dX1_findDistances_79 : decode cX1_findDistances 79 = .ok (.aload_n 1, 1) := by decide +kernel
theorem dX1_findDistances_80 : decode cX1_findDistances 80 = .ok (.getfield 57, 3) := by decide +kernel
theorem dX1_findDistances_83 : decode cX1_findDistances 83 = .ok (.if_icmp .ge 98, 3) := by decide +kernel
theorem dX1_findDistances_86 : decode cX1_findDistances 86 = .ok (.aload_n 1, 1) := by decide +kernel
theorem dX1_findDistances_87 : decode cX1_findDistances 87 = .ok (.iload 4, 2) := by decide +kernel
theorem dX1_findDistances_89 : decode cX1_findDistances 89 = .ok (.iload_n 3, 1) := by decide +kernel
theorem dX1_findDistances_90 : decode cX1_findDistances 90 = .ok (.invokevirtual 62, 3) := by decide +kernel
theorem dX1_findDistances_93 : decode cX1_findDistances 93 = .ok (.istore 5, 2) := by decide +kernel
theorem dX1_findDistances_95 : decode cX1_findDistances 95 = .ok (.iload 5, 2) := by decide +kernel
theorem dX1_findDistances_97 : decode cX1_findDistances 97 = .ok (.invokestatic 66, 3) := by decide +kernel
theorem dX1_findDistances_100 : decode cX1_findDistances 100 = .ok (.ifCond .eq 75, 3) := by decide +kernel
theorem dX1_findDistances_103 : decode cX1_findDistances 103 = .ok (.aload_n 0, 1) := by decide +kernel
theorem dX1_findDistances_104 : decode cX1_findDistances 104 = .ok (.getfield 9, 3) := by decide +kernel
theorem dX1_findDistances_107 : decode cX1_findDistances 107 = .ok (.iload 5, 2) := by decide +kernel
theorem dX1_findDistances_109 : decode cX1_findDistances 109 = .ok (.iaload, 1) := by decide +kernel
theorem dX1_findDistances_110 : decode cX1_findDistances 110 = .ok (.ifCond .ge 65, 3) := by decide +kernel
theorem dX1_findDistances_113 : decode cX1_findDistances 113 = .ok (.aload_n 0, 1) := by decide +kernel
theorem dX1_findDistances_114 : decode cX1_findDistances 114 = .ok (.getfield 18, 3) := by decide +kernel
theorem dX1_findDistances_117 : decode cX1_findDistances 117 = .ok (.bipush 10, 2) := by decide +kernel
theorem dX1_findDistances_119 : decode cX1_findDistances 119 = .ok (.if_icmp .ge 56, 3) := by decide +kernel
theorem dX1_findDistances_122 : decode cX1_findDistances 122 = .ok (.aload_n 0, 1) := by decide +kernel
theorem dX1_findDistances_123 : decode cX1_findDistances 123 = .ok (.getfield 9, 3) := by decide +kernel
theorem dX1_findDistances_126 : decode cX1_findDistances 126 = .ok (.iload 5, 2) := by decide +kernel
theorem dX1_findDistances_128 : decode cX1_findDistances 128 = .ok (.aload_n 0, 1) := by decide +kernel
theorem dX1_findDistances_129 : decode cX1_findDistances 129 = .ok (.getfield 9, 3) := by decide +kernel
theorem dX1_findDistances_132 : decode cX1_findDistances 132 = .ok (.iload_n 3, 1) := by decide +kernel
theorem dX1_findDistances_133 : decode cX1_findDistances 133 = .ok (.iaload, 1) := by decide +kernel
theorem dX1_findDistances_134 : decode cX1_findDistances 134 = .ok (.iconst 1, 1) := by decide +kernel
theorem dX1_findDistances_135 : decode cX1_findDistances 135 = .ok (.iadd, 1) := by decide +kernel
theorem dX1_findDistances_136 : decode cX1_findDistances 136 = .ok (.iastore, 1) := by decide +kernel
theorem dX1_findDistances_137 : decode cX1_findDistances 137 = .ok (.aload_n 0, 1) := by decide +kernel
theorem dX1_findDistances_138 : decode cX1_findDistances 138 = .ok (.getfield 22, 3) := by decide +kernel
theorem dX1_findDistances_141 : decode cX1_findDistances 141 = .ok (.iload 5, 2) := by decide +kernel
theorem dX1_findDistances_143 : decode cX1_findDistances 143 = .ok (.iload_n 3, 1) := by decide +kernel
theorem dX1_findDistances_144 : decode cX1_findDistances 144 = .ok (.iastore, 1) := by decide +kernel
theorem dX1_findDistances_145 : decode cX1_findDistances 145 = .ok (.aload_n 0, 1) := by decide +kernel
theorem dX1_findDistances_146 : decode cX1_findDistances 146 = .ok (.getfield 25, 3) := by decide +kernel
theorem dX1_findDistances_149 : decode cX1_findDistances 149 = .ok (.iload 5, 2) := by decide +kernel
theorem dX1_findDistances_151 : decode cX1_findDistances 151 = .ok (.iload 4, 2) := by decide +kernel
theorem dX1_findDistances_153 : decode cX1_findDistances 153 = .ok (.iastore, 1) := by decide +kernel
theorem dX1_findDistances_154 : decode cX1_findDistances 154 = .ok (.aload_n 0, 1) := by decide +kernel
theorem dX1_findDistances_155 : decode cX1_findDistances 155 = .ok (.getfield 15, 3) := by decide +kernel
theorem dX1_findDistances_158 : decode cX1_findDistances 158 = .ok (.aload_n 0, 1) := by decide +kernel
theorem dX1_findDistances_159 : decode cX1_findDistances 159 = .ok (.getfield 18, 3) := by decide +kernel
theorem dX1_findDistances_162 : decode cX1_findDistances 162 = .ok (.iload 5, 2) := by decide +kernel
theorem dX1_findDistances_164 : decode cX1_findDistances 164 = .ok (.iastore, 1) := by decide +kernel
theorem dX1_findDistances_165 : decode cX1_findDistances 165 = .ok (.aload_n 0, 1) := by decide +kernel
theorem dX1_findDistances_166 : decode cX1_findDistances 166 = .ok (.dup, 1) := by decide +kernel
theorem dX1_findDistances_167 : decode cX1_findDistances 167 = .ok (.getfield 18, 3) := by decide +kernel
theorem dX1_findDistances_170 : decode cX1_findDistances 170 = .ok (.iconst 1, 1) := by decide +kernel
theorem dX1_findDistances_171 : decode cX1_findDistances 171 = .ok (.iadd, 1) := by decide +kernel
theorem dX1_findDistances_172 : decode cX1_findDistances 172 = .ok (.putfield 18, 3) := by decide +kernel
theorem dX1_findDistances_175 : decode cX1_findDistances 175 = .ok (.iinc 4 1, 3) := by decide +kernel
theorem dX1_findDistances_178 : decode cX1_findDistances 178 = .ok (.goto (-101), 3) := by decide +kernel
theorem dX1_findDistances_181 : decode cX1_findDistances 181 = .ok (.iinc 2 1, 3) := by decide +kernel
theorem dX1_findDistances_184 : decode cX1_findDistances 184 = .ok (.goto (-131), 3) := by decide +kernel
theorem dX1_findDistances_187 : decode cX1_findDistances 187 = .ok (.return_, 1) := by decide +kernel
theorem dX1_findLoop_0 : decode cX1_findLoop 0 = .ok (.iconst 0, 1) := by decide +kernel
theorem dX1_findLoop_1 : decode cX1_findLoop 1 = .ok (.istore_n 2, 1) := by decide +kernel
theorem dX1_findLoop_2 : decode cX1_findLoop 2 = .ok (.iload_n 2, 1) := by decide +kernel
theorem dX1_findLoop_3 : decode cX1_findLoop 3 = .ok (.bipush 10, 2) := by decide +kernel
theorem dX1_findLoop_5 : decode cX1_findLoop 5 = .ok (.if_icmp .ge 16, 3) := by decide +kernel
theorem dX1_findLoop_8 : decode cX1_findLoop 8 = .ok (.aload_n 0, 1) := by decide +kernel
theorem dX1_findLoop_9 : decode cX1_findLoop 9 = .ok (.getfield 40, 3) := by decide +kernel
theorem dX1_findLoop_12 : decode cX1_findLoop 12 = .ok (.iload_n 2, 1) := by decide +kernel
theorem dX1_findLoop_13 : decode cX1_findLoop 13 = .ok (.iconst 0, 1) := by decide +kernel
theorem dX1_findLoop_14 : decode cX1_findLoop 14 = .ok (.bastore, 1) := by decide +kernel
theorem dX1_findLoop_15 : decode cX1_findLoop 15 = .ok (.iinc 2 1, 3) := by decide +kernel
theorem dX1_findLoop_18 : decode cX1_findLoop 18 = .ok (.goto (-16), 3) := by decide +kernel
theorem dX1_findLoop_21 : decode cX1_findLoop 21 = .ok (.aload_n 0, 1) := by decide +kernel
theorem dX1_findLoop_22 : decode cX1_findLoop 22 = .ok (.iconst 0, 1) := by decide +kernel
theorem dX1_findLoop_23 : decode cX1_findLoop 23 = .ok (.putfield 37, 3) := by decide +kernel
theorem dX1_findLoop_26 : decode cX1_findLoop 26 = .ok (.aload_n 0, 1) := by decide +kernel
theorem dX1_findLoop_27 : decode cX1_findLoop 27 = .ok (.aload_n 1, 1) := by decide +kernel
theorem dX1_findLoop_28 : decode cX1_findLoop 28 = .ok (.invokevirtual 70, 3) := by decide +kernel
theorem dX1_findLoop_31 : decode cX1_findLoop 31 = .ok (.istore_n 2, 1) := by decide +kernel
theorem dX1_findLoop_32 : decode cX1_findLoop 32 = .ok (.iload_n 2, 1) := by decide +kernel
theorem dX1_findLoop_33 : decode cX1_findLoop 33 = .ok (.invokestatic 74, 3) := by decide +kernel
theorem dX1_findLoop_36 : decode cX1_findLoop 36 = .ok (.ifCond .ne 4, 3) := by decide +kernel
theorem dX1_findLoop_39 : decode cX1_findLoop 39 = .ok (.return_, 1) := by decide +kernel
theorem dX1_findLoop_40 : decode cX1_findLoop 40 = .ok (.aload_n 0, 1) := by decide +kernel
theorem dX1_findLoop_41 : decode cX1_findLoop 41 = .ok (.getfield 40, 3) := by decide +kernel
theorem dX1_findLoop_44 : decode cX1_findLoop 44 = .ok (.iload_n 2, 1) := by decide +kernel
theorem dX1_findLoop_45 : decode cX1_findLoop 45 = .ok (.iconst 1, 1) := by decide +kernel
theorem dX1_findLoop_46 : decode cX1_findLoop 46 = .ok (.bastore, 1) := by decide +kernel
theorem dX1_findLoop_47 : decode cX1_findLoop 47 = .ok (.aload_n 1, 1) := by decide +kernel
theorem dX1_findLoop_48 : decode cX1_findLoop 48 = .ok (.getfield 77, 3) := by decide +kernel
theorem dX1_findLoop_51 : decode cX1_findLoop 51 = .ok (.iload_n 2, 1) := by decide +kernel
theorem dX1_findLoop_52 : decode cX1_findLoop 52 = .ok (.iaload, 1) := by decide +kernel
theorem dX1_findLoop_53 : decode cX1_findLoop 53 = .ok (.istore_n 3, 1) := by decide +kernel
theorem dX1_findLoop_54 : decode cX1_findLoop 54 = .ok (.aload_n 1, 1) := by decide +kernel
theorem dX1_findLoop_55 : decode cX1_findLoop 55 = .ok (.getfield 80, 3) := by decide +kernel
theorem dX1_findLoop_58 : decode cX1_findLoop 58 = .ok (.iload_n 2, 1) := by decide +kernel
theorem dX1_findLoop_59 : decode cX1_findLoop 59 = .ok (.iaload, 1) := by decide +kernel
theorem dX1_findLoop_60 : decode cX1_findLoop 60 = .ok (.istore 4, 2) := by decide +kernel
theorem dX1_findLoop_62 : decode cX1_findLoop 62 = .ok (.iconst 0, 1) := by decide +kernel
theorem dX1_findLoop_63 : decode cX1_findLoop 63 = .ok (.istore 5, 2) := by decide +kernel
theorem dX1_findLoop_65 : decode cX1_findLoop 65 = .ok (.iload 5, 2) := by decide +kernel
theorem dX1_findLoop_67 : decode cX1_findLoop 67 = .ok (.bipush 10, 2) := by decide +kernel
theorem dX1_findLoop_69 : decode cX1_findLoop 69 = .ok (.if_icmp .ge 63, 3) := by decide +kernel
theorem dX1_findLoop_72 : decode cX1_findLoop 72 = .ok (.iload_n 3, 1) := by decide +kernel
theorem dX1_findLoop_73 : decode cX1_findLoop 73 = .ok (.iload 4, 2) := by decide +kernel
theorem dX1_findLoop_75 : decode cX1_findLoop 75 = .ok (.if_icmp .eq 57, 3) := by decide +kernel
theorem dX1_findLoop_78 : decode cX1_findLoop 78 = .ok (.iload_n 3, 1) := by decide +kernel
theorem dX1_findLoop_79 : decode cX1_findLoop 79 = .ok (.invokestatic 66, 3) := by decide +kernel
theorem dX1_findLoop_82 : decode cX1_findLoop 82 = .ok (.ifCond .eq 50, 3) := by decide +kernel
theorem dX1_findLoop_85 : decode cX1_findLoop 85 = .ok (.iload 4, 2) := by decide +kernel
theorem dX1_findLoop_87 : decode cX1_findLoop 87 = .ok (.invokestatic 66, 3) := by decide +kernel
theorem dX1_findLoop_90 : decode cX1_findLoop 90 = .ok (.ifCond .eq 42, 3) := by decide +kernel
theorem dX1_findLoop_93 : decode cX1_findLoop 93 = .ok (.aload_n 0, 1) := by decide +kernel
theorem dX1_findLoop_94 : decode cX1_findLoop 94 = .ok (.getfield 9, 3) := by decide +kernel
theorem dX1_findLoop_97 : decode cX1_findLoop 97 = .ok (.iload_n 3, 1) := by decide +kernel
theorem dX1_findLoop_98 : decode cX1_findLoop 98 = .ok (.iaload, 1) := by decide +kernel
theorem dX1_findLoop_99 : decode cX1_findLoop 99 = .ok (.aload_n 0, 1) := by decide +kernel
theorem dX1_findLoop_100 : decode cX1_findLoop 100 = .ok (.getfield 9, 3) := by decide +kernel
theorem dX1_findLoop_103 : decode cX1_findLoop 103 = .ok (.iload 4, 2) := by decide +kernel
theorem dX1_findLoop_105 : decode cX1_findLoop 105 = .ok (.iaload, 1) := by decide +kernel
theorem dX1_findLoop_106 : decode cX1_findLoop 106 = .ok (.if_icmp .lt 12, 3) := by decide +kernel
theorem dX1_findLoop_109 : decode cX1_findLoop 109 = .ok (.aload_n 0, 1) := by decide +kernel
theorem dX1_findLoop_110 : decode cX1_findLoop 110 = .ok (.iload_n 3, 1) := by decide +kernel
theorem dX1_findLoop_111 : decode cX1_findLoop 111 = .ok (.invokevirtual 83, 3) := by decide +kernel
theorem dX1_findLoop_114 : decode cX1_findLoop 114 = .ok (.istore_n 3, 1) := by decide +kernel
theorem dX1_findLoop_115 : decode cX1_findLoop 115 = .ok (.goto 11, 3) := by decide +kernel
theorem dX1_findLoop_118 : decode cX1_findLoop 118 = .ok (.aload_n 0, 1) := by decide +kernel
theorem dX1_findLoop_119 : decode cX1_findLoop 119 = .ok (.iload 4, 2) := by decide +kernel
theorem dX1_findLoop_121 : decode cX1_findLoop 121 = .ok (.invokevirtual 83, 3) := by decide +kernel
theorem dX1_findLoop_124 : decode cX1_findLoop 124 = .ok (.istore 4, 2) := by decide +kernel
theorem dX1_findLoop_126 : decode cX1_findLoop 126 = .ok (.iinc 5 1, 3) := by decide +kernel
theorem dX1_findLoop_129 : decode cX1_findLoop 129 = .ok (.goto (-64), 3) := by decide +kernel
theorem dX1_findLoop_132 : decode cX1_findLoop 132 = .ok (.aload_n 0, 1) := by decide +kernel
theorem dX1_findLoop_133 : decode cX1_findLoop 133 = .ok (.aload_n 1, 1) := by decide +kernel
theorem dX1_findLoop_134 : decode cX1_findLoop 134 = .ok (.iload_n 3, 1) := by decide +kernel
theorem dX1_findLoop_135 : decode cX1_findLoop 135 = .ok (.invokevirtual 87, 3) := by decide +kernel
theorem dX1_findLoop_138 : decode cX1_findLoop 138 = .ok (.return_, 1) := by decide +kernel
theorem dX1_climb_0 : decode cX1_climb 0 = .ok (.aload_n 0, 1) := by decide +kernel
theorem dX1_climb_1 : decode cX1_climb 1 = .ok (.getfield 25, 3) := by decide +kernel
theorem dX1_climb_4 : decode cX1_climb 4 = .ok (.iload_n 1, 1) := by decide +kernel
theorem dX1_climb_5 : decode cX1_climb 5 = .ok (.iaload, 1) := by decide +kernel
theorem dX1_climb_6 : decode cX1_climb 6 = .ok (.istore_n 2, 1) := by decide +kernel
theorem dX1_climb_7 : decode cX1_climb 7 = .ok (.iload_n 2, 1) := by decide +kernel
theorem dX1_climb_8 : decode cX1_climb 8 = .ok (.invokestatic 74, 3) := by decide +kernel
theorem dX1_climb_11 : decode cX1_climb 11 = .ok (.ifCond .eq 10, 3) := by decide +kernel
theorem dX1_climb_14 : decode cX1_climb 14 = .ok (.aload_n 0, 1) := by decide +kernel
theorem dX1_climb_15 : decode cX1_climb 15 = .ok (.getfield 40, 3) := by decide +kernel
theorem dX1_climb_18 : decode cX1_climb 18 = .ok (.iload_n 2, 1) := by decide +kernel
theorem dX1_climb_19 : decode cX1_climb 19 = .ok (.iconst 1, 1) := by decide +kernel
theorem dX1_climb_20 : decode cX1_climb 20 = .ok (.bastore, 1) := by decide +kernel
theorem dX1_climb_21 : decode cX1_climb 21 = .ok (.aload_n 0, 1) := by decide +kernel
theorem dX1_climb_22 : decode cX1_climb 22 = .ok (.getfield 22, 3) := by decide +kernel
theorem dX1_climb_25 : decode cX1_climb 25 = .ok (.iload_n 1, 1) := by decide +kernel
theorem dX1_climb_26 : decode cX1_climb 26 = .ok (.iaload, 1) := by decide +kernel
theorem dX1_climb_27 : decode cX1_climb 27 = .ok (.ireturn, 1) := by decide +kernel
theorem dX1_closingPipe_0 : decode cX1_closingPipe 0 = .ok (.iconst 0, 1) := by decide +kernel
theorem dX1_closingPipe_1 : decode cX1_closingPipe 1 = .ok (.istore_n 2, 1) := by decide +kernel
theorem dX1_closingPipe_2 : decode cX1_closingPipe 2 = .ok (.iload_n 2, 1) := by decide +kernel
theorem dX1_closingPipe_3 : decode cX1_closingPipe 3 = .ok (.aload_n 1, 1) := by decide +kernel
theorem dX1_closingPipe_4 : decode cX1_closingPipe 4 = .ok (.getfield 57, 3) := by decide +kernel
theorem dX1_closingPipe_7 : decode cX1_closingPipe 7 = .ok (.if_icmp .ge 56, 3) := by decide +kernel
theorem dX1_closingPipe_10 : decode cX1_closingPipe 10 = .ok (.aload_n 1, 1) := by decide +kernel
theorem dX1_closingPipe_11 : decode cX1_closingPipe 11 = .ok (.getfield 77, 3) := by decide +kernel
theorem dX1_closingPipe_14 : decode cX1_closingPipe 14 = .ok (.iload_n 2, 1) := by decide +kernel
theorem dX1_closingPipe_15 : decode cX1_closingPipe 15 = .ok (.iaload, 1) := by decide +kernel
theorem dX1_closingPipe_16 : decode cX1_closingPipe 16 = .ok (.istore_n 3, 1) := by decide +kernel
theorem dX1_closingPipe_17 : decode cX1_closingPipe 17 = .ok (.aload_n 1, 1) := by decide +kernel
theorem dX1_closingPipe_18 : decode cX1_closingPipe 18 = .ok (.getfield 80, 3) := by decide +kernel
theorem dX1_closingPipe_21 : decode cX1_closingPipe 21 = .ok (.iload_n 2, 1) := by decide +kernel
theorem dX1_closingPipe_22 : decode cX1_closingPipe 22 = .ok (.iaload, 1) := by decide +kernel
theorem dX1_closingPipe_23 : decode cX1_closingPipe 23 = .ok (.istore 4, 2) := by decide +kernel
theorem dX1_closingPipe_25 : decode cX1_closingPipe 25 = .ok (.aload_n 0, 1) := by decide +kernel
theorem dX1_closingPipe_26 : decode cX1_closingPipe 26 = .ok (.getfield 9, 3) := by decide +kernel
theorem dX1_closingPipe_29 : decode cX1_closingPipe 29 = .ok (.iload_n 3, 1) := by decide +kernel
theorem dX1_closingPipe_30 : decode cX1_closingPipe 30 = .ok (.iaload, 1) := by decide +kernel
theorem dX1_closingPipe_31 : decode cX1_closingPipe 31 = .ok (.ifCond .lt 26, 3) := by decide +kernel
theorem dX1_closingPipe_34 : decode cX1_closingPipe 34 = .ok (.aload_n 0, 1) := by decide +kernel
theorem dX1_closingPipe_35 : decode cX1_closingPipe 35 = .ok (.getfield 25, 3) := by decide +kernel
theorem dX1_closingPipe_38 : decode cX1_closingPipe 38 = .ok (.iload_n 3, 1) := by decide +kernel
theorem dX1_closingPipe_39 : decode cX1_closingPipe 39 = .ok (.iaload, 1) := by decide +kernel
theorem dX1_closingPipe_40 : decode cX1_closingPipe 40 = .ok (.iload_n 2, 1) := by decide +kernel
theorem dX1_closingPipe_41 : decode cX1_closingPipe 41 = .ok (.if_icmp .eq 16, 3) := by decide +kernel
theorem dX1_closingPipe_44 : decode cX1_closingPipe 44 = .ok (.aload_n 0, 1) := by decide +kernel
theorem dX1_closingPipe_45 : decode cX1_closingPipe 45 = .ok (.getfield 25, 3) := by decide +kernel
theorem dX1_closingPipe_48 : decode cX1_closingPipe 48 = .ok (.iload 4, 2) := by decide +kernel
theorem dX1_closingPipe_50 : decode cX1_closingPipe 50 = .ok (.iaload, 1) := by decide +kernel
theorem dX1_closingPipe_51 : decode cX1_closingPipe 51 = .ok (.iload_n 2, 1) := by decide +kernel
theorem dX1_closingPipe_52 : decode cX1_closingPipe 52 = .ok (.if_icmp .eq 5, 3) := by decide +kernel
theorem dX1_closingPipe_55 : decode cX1_closingPipe 55 = .ok (.iload_n 2, 1) := by decide +kernel
theorem dX1_closingPipe_56 : decode cX1_closingPipe 56 = .ok (.ireturn, 1) := by decide +kernel
theorem dX1_closingPipe_57 : decode cX1_closingPipe 57 = .ok (.iinc 2 1, 3) := by decide +kernel
theorem dX1_closingPipe_60 : decode cX1_closingPipe 60 = .ok (.goto (-58), 3) := by decide +kernel
theorem dX1_closingPipe_63 : decode cX1_closingPipe 63 = .ok (.iconst (-1), 1) := by decide +kernel
theorem dX1_closingPipe_64 : decode cX1_closingPipe 64 = .ok (.ireturn, 1) := by decide +kernel
theorem dX1_goRound_0 : decode cX1_goRound 0 = .ok (.iload_n 2, 1) := by decide +kernel
theorem dX1_goRound_1 : decode cX1_goRound 1 = .ok (.istore_n 3, 1) := by decide +kernel
theorem dX1_goRound_2 : decode cX1_goRound 2 = .ok (.iconst (-1), 1) := by decide +kernel
theorem dX1_goRound_3 : decode cX1_goRound 3 = .ok (.istore 4, 2) := by decide +kernel
theorem dX1_goRound_5 : decode cX1_goRound 5 = .ok (.iconst 0, 1) := by decide +kernel
theorem dX1_goRound_6 : decode cX1_goRound 6 = .ok (.istore 5, 2) := by decide +kernel
theorem dX1_goRound_8 : decode cX1_goRound 8 = .ok (.iload 5, 2) := by decide +kernel
theorem dX1_goRound_10 : decode cX1_goRound 10 = .ok (.bipush 10, 2) := by decide +kernel
theorem dX1_goRound_12 : decode cX1_goRound 12 = .ok (.if_icmp .ge 71, 3) := by decide +kernel
theorem dX1_goRound_15 : decode cX1_goRound 15 = .ok (.iload 5, 2) := by decide +kernel
theorem dX1_goRound_17 : decode cX1_goRound 17 = .ok (.ifCond .eq 8, 3) := by decide +kernel
theorem dX1_goRound_20 : decode cX1_goRound 20 = .ok (.iload_n 3, 1) := by decide +kernel
theorem dX1_goRound_21 : decode cX1_goRound 21 = .ok (.iload_n 2, 1) := by decide +kernel
theorem dX1_goRound_22 : decode cX1_goRound 22 = .ok (.if_icmp .eq 61, 3) := by decide +kernel
theorem dX1_goRound_25 : decode cX1_goRound 25 = .ok (.aload_n 0, 1) := by decide +kernel
theorem dX1_goRound_26 : decode cX1_goRound 26 = .ok (.aload_n 1, 1) := by decide +kernel
theorem dX1_goRound_27 : decode cX1_goRound 27 = .ok (.iload_n 3, 1) := by decide +kernel
theorem dX1_goRound_28 : decode cX1_goRound 28 = .ok (.iload 4, 2) := by decide +kernel
theorem dX1_goRound_30 : decode cX1_goRound 30 = .ok (.invokevirtual 91, 3) := by decide +kernel
theorem dX1_goRound_33 : decode cX1_goRound 33 = .ok (.istore 4, 2) := by decide +kernel
theorem dX1_goRound_35 : decode cX1_goRound 35 = .ok (.iload 4, 2) := by decide +kernel
theorem dX1_goRound_37 : decode cX1_goRound 37 = .ok (.invokestatic 74, 3) := by decide +kernel
theorem dX1_goRound_40 : decode cX1_goRound 40 = .ok (.ifCond .ne 4, 3) := by decide +kernel
theorem dX1_goRound_43 : decode cX1_goRound 43 = .ok (.return_, 1) := by decide +kernel
theorem dX1_goRound_44 : decode cX1_goRound 44 = .ok (.aload_n 0, 1) := by decide +kernel
theorem dX1_goRound_45 : decode cX1_goRound 45 = .ok (.getfield 31, 3) := by decide +kernel
theorem dX1_goRound_48 : decode cX1_goRound 48 = .ok (.iload 5, 2) := by decide +kernel
theorem dX1_goRound_50 : decode cX1_goRound 50 = .ok (.iload_n 3, 1) := by decide +kernel
theorem dX1_goRound_51 : decode cX1_goRound 51 = .ok (.iastore, 1) := by decide +kernel
theorem dX1_goRound_52 : decode cX1_goRound 52 = .ok (.aload_n 0, 1) := by decide +kernel
theorem dX1_goRound_53 : decode cX1_goRound 53 = .ok (.getfield 34, 3) := by decide +kernel
theorem dX1_goRound_56 : decode cX1_goRound 56 = .ok (.iload 5, 2) := by decide +kernel
theorem dX1_goRound_58 : decode cX1_goRound 58 = .ok (.iload 4, 2) := by decide +kernel
theorem dX1_goRound_60 : decode cX1_goRound 60 = .ok (.iastore, 1) := by decide +kernel
theorem dX1_goRound_61 : decode cX1_goRound 61 = .ok (.aload_n 0, 1) := by decide +kernel
theorem dX1_goRound_62 : decode cX1_goRound 62 = .ok (.iload 5, 2) := by decide +kernel
theorem dX1_goRound_64 : decode cX1_goRound 64 = .ok (.iconst 1, 1) := by decide +kernel
theorem dX1_goRound_65 : decode cX1_goRound 65 = .ok (.iadd, 1) := by decide +kernel
theorem dX1_goRound_66 : decode cX1_goRound 66 = .ok (.putfield 37, 3) := by decide +kernel
theorem dX1_goRound_69 : decode cX1_goRound 69 = .ok (.aload_n 1, 1) := by decide +kernel
theorem dX1_goRound_70 : decode cX1_goRound 70 = .ok (.iload 4, 2) := by decide +kernel
theorem dX1_goRound_72 : decode cX1_goRound 72 = .ok (.iload_n 3, 1) := by decide +kernel
theorem dX1_goRound_73 : decode cX1_goRound 73 = .ok (.invokevirtual 62, 3) := by decide +kernel
theorem dX1_goRound_76 : decode cX1_goRound 76 = .ok (.istore_n 3, 1) := by decide +kernel
theorem dX1_goRound_77 : decode cX1_goRound 77 = .ok (.iinc 5 1, 3) := by decide +kernel
theorem dX1_goRound_80 : decode cX1_goRound 80 = .ok (.goto (-72), 3) := by decide +kernel
theorem dX1_goRound_83 : decode cX1_goRound 83 = .ok (.return_, 1) := by decide +kernel
theorem dX1_nextInLoop_0 : decode cX1_nextInLoop 0 = .ok (.iconst (-1), 1) := by decide +kernel
theorem dX1_nextInLoop_1 : decode cX1_nextInLoop 1 = .ok (.istore 4, 2) := by decide +kernel
theorem dX1_nextInLoop_3 : decode cX1_nextInLoop 3 = .ok (.bipush 10, 2) := by decide +kernel
theorem dX1_nextInLoop_5 : decode cX1_nextInLoop 5 = .ok (.istore 5, 2) := by decide +kernel
theorem dX1_nextInLoop_7 : decode cX1_nextInLoop 7 = .ok (.iconst 0, 1) := by decide +kernel
theorem dX1_nextInLoop_8 : decode cX1_nextInLoop 8 = .ok (.istore 6, 2) := by decide +kernel
theorem dX1_nextInLoop_10 : decode cX1_nextInLoop 10 = .ok (.iload 6, 2) := by decide +kernel
theorem dX1_nextInLoop_12 : decode cX1_nextInLoop 12 = .ok (.aload_n 1, 1) := by decide +kernel
theorem dX1_nextInLoop_13 : decode cX1_nextInLoop 13 = .ok (.getfield 57, 3) := by decide +kernel
theorem dX1_nextInLoop_16 : decode cX1_nextInLoop 16 = .ok (.if_icmp .ge 57, 3) := by decide +kernel
theorem dX1_nextInLoop_19 : decode cX1_nextInLoop 19 = .ok (.aload_n 1, 1) := by decide +kernel
theorem dX1_nextInLoop_20 : decode cX1_nextInLoop 20 = .ok (.iload 6, 2) := by decide +kernel
theorem dX1_nextInLoop_22 : decode cX1_nextInLoop 22 = .ok (.iload_n 2, 1) := by decide +kernel
theorem dX1_nextInLoop_23 : decode cX1_nextInLoop 23 = .ok (.invokevirtual 62, 3) := by decide +kernel
theorem dX1_nextInLoop_26 : decode cX1_nextInLoop 26 = .ok (.istore 7, 2) := by decide +kernel
theorem dX1_nextInLoop_28 : decode cX1_nextInLoop 28 = .ok (.aload_n 0, 1) := by decide +kernel
theorem dX1_nextInLoop_29 : decode cX1_nextInLoop 29 = .ok (.getfield 40, 3) := by decide +kernel
theorem dX1_nextInLoop_32 : decode cX1_nextInLoop 32 = .ok (.iload 6, 2) := by decide +kernel
theorem dX1_nextInLoop_34 : decode cX1_nextInLoop 34 = .ok (.baload, 1) := by decide +kernel
theorem dX1_nextInLoop_35 : decode cX1_nextInLoop 35 = .ok (.ifCond .eq 32, 3) := by decide +kernel
theorem dX1_nextInLoop_38 : decode cX1_nextInLoop 38 = .ok (.iload 6, 2) := by decide +kernel
theorem dX1_nextInLoop_40 : decode cX1_nextInLoop 40 = .ok (.iload_n 3, 1) := by decide +kernel
theorem dX1_nextInLoop_41 : decode cX1_nextInLoop 41 = .ok (.if_icmp .eq 26, 3) := by decide +kernel
theorem dX1_nextInLoop_44 : decode cX1_nextInLoop 44 = .ok (.iload 7, 2) := by decide +kernel
theorem dX1_nextInLoop_46 : decode cX1_nextInLoop 46 = .ok (.invokestatic 66, 3) := by decide +kernel
theorem dX1_nextInLoop_49 : decode cX1_nextInLoop 49 = .ok (.ifCond .eq 18, 3) := by decide +kernel
theorem dX1_nextInLoop_52 : decode cX1_nextInLoop 52 = .ok (.iload 7, 2) := by decide +kernel
theorem dX1_nextInLoop_54 : decode cX1_nextInLoop 54 = .ok (.iload 5, 2) := by decide +kernel
theorem dX1_nextInLoop_56 : decode cX1_nextInLoop 56 = .ok (.if_icmp .ge 11, 3) := by decide +kernel
theorem dX1_nextInLoop_59 : decode cX1_nextInLoop 59 = .ok (.iload 6, 2) := by decide +kernel
theorem dX1_nextInLoop_61 : decode cX1_nextInLoop 61 = .ok (.istore 4, 2) := by decide +kernel
theorem dX1_nextInLoop_63 : decode cX1_nextInLoop 63 = .ok (.iload 7, 2) := by decide +kernel
theorem dX1_nextInLoop_65 : decode cX1_nextInLoop 65 = .ok (.istore 5, 2) := by decide +kernel
theorem dX1_nextInLoop_67 : decode cX1_nextInLoop 67 = .ok (.iinc 6 1, 3) := by decide +kernel
theorem dX1_nextInLoop_70 : decode cX1_nextInLoop 70 = .ok (.goto (-60), 3) := by decide +kernel
theorem dX1_nextInLoop_73 : decode cX1_nextInLoop 73 = .ok (.iload 4, 2) := by decide +kernel
theorem dX1_nextInLoop_75 : decode cX1_nextInLoop 75 = .ok (.ireturn, 1) := by decide +kernel
theorem dX3_init_0 : decode cX3_init 0 = .ok (.aload_n 0, 1) := by decide +kernel
theorem dX3_init_1 : decode cX3_init 1 = .ok (.invokespecial 1, 3) := by decide +kernel
theorem dX3_init_4 : decode cX3_init 4 = .ok (.aload_n 0, 1) := by decide +kernel
theorem dX3_init_5 : decode cX3_init 5 = .ok (.bipush 60, 2) := by decide +kernel
theorem dX3_init_7 : decode cX3_init 7 = .ok (.newarray .char, 2) := by decide +kernel
theorem dX3_init_9 : decode cX3_init 9 = .ok (.putfield 9, 3) := by decide +kernel
theorem dX3_init_12 : decode cX3_init 12 = .ok (.aload_n 0, 1) := by decide +kernel
theorem dX3_init_13 : decode cX3_init 13 = .ok (.iconst 0, 1) := by decide +kernel
theorem dX3_init_14 : decode cX3_init 14 = .ok (.putfield 13, 3) := by decide +kernel
theorem dX3_init_17 : decode cX3_init 17 = .ok (.aload_n 0, 1) := by decide +kernel
theorem dX3_init_18 : decode cX3_init 18 = .ok (.iconst 0, 1) := by decide +kernel
theorem dX3_init_19 : decode cX3_init 19 = .ok (.putfield 17, 3) := by decide +kernel
theorem dX3_init_22 : decode cX3_init 22 = .ok (.aload_n 0, 1) := by decide +kernel
theorem dX3_init_23 : decode cX3_init 23 = .ok (.iconst 0, 1) := by decide +kernel
theorem dX3_init_24 : decode cX3_init 24 = .ok (.putfield 20, 3) := by decide +kernel
theorem dX3_init_27 : decode cX3_init 27 = .ok (.aload_n 0, 1) := by decide +kernel
theorem dX3_init_28 : decode cX3_init 28 = .ok (.bipush 20, 2) := by decide +kernel
theorem dX3_init_30 : decode cX3_init 30 = .ok (.newarray .char, 2) := by decide +kernel
theorem dX3_init_32 : decode cX3_init 32 = .ok (.putfield 23, 3) := by decide +kernel
theorem dX3_init_35 : decode cX3_init 35 = .ok (.aload_n 0, 1) := by decide +kernel
theorem dX3_init_36 : decode cX3_init 36 = .ok (.bipush 80, 2) := by decide +kernel
theorem dX3_init_38 : decode cX3_init 38 = .ok (.newarray .int, 2) := by decide +kernel
theorem dX3_init_40 : decode cX3_init 40 = .ok (.putfield 26, 3) := by decide +kernel
theorem dX3_init_43 : decode cX3_init 43 = .ok (.return_, 1) := by decide +kernel
theorem dX3_valueOf_0 : decode cX3_valueOf 0 = .ok (.aload_n 0, 1) := by decide +kernel
theorem dX3_valueOf_1 : decode cX3_valueOf 1 = .ok (.getfield 26, 3) := by decide +kernel
theorem dX3_valueOf_4 : decode cX3_valueOf 4 = .ok (.iload_n 1, 1) := by decide +kernel
theorem dX3_valueOf_5 : decode cX3_valueOf 5 = .ok (.iconst 4, 1) := by decide +kernel
theorem dX3_valueOf_6 : decode cX3_valueOf 6 = .ok (.imul, 1) := by decide +kernel
theorem dX3_valueOf_7 : decode cX3_valueOf 7 = .ok (.iload_n 2, 1) := by decide +kernel
theorem dX3_valueOf_8 : decode cX3_valueOf 8 = .ok (.iadd, 1) := by decide +kernel
theorem dX3_valueOf_9 : decode cX3_valueOf 9 = .ok (.iaload, 1) := by decide +kernel
theorem dX3_valueOf_10 : decode cX3_valueOf 10 = .ok (.ireturn, 1) := by decide +kernel
theorem dX3_findFault_0 : decode cX3_findFault 0 = .ok (.aload_n 0, 1) := by decide +kernel
theorem dX3_findFault_1 : decode cX3_findFault 1 = .ok (.iconst 0, 1) := by decide +kernel
theorem dX3_findFault_2 : decode cX3_findFault 2 = .ok (.putfield 17, 3) := by decide +kernel
theorem dX3_findFault_5 : decode cX3_findFault 5 = .ok (.aload_n 0, 1) := by decide +kernel
theorem dX3_findFault_6 : decode cX3_findFault 6 = .ok (.iconst 0, 1) := by decide +kernel
theorem dX3_findFault_7 : decode cX3_findFault 7 = .ok (.putfield 20, 3) := by decide +kernel
theorem dX3_findFault_10 : decode cX3_findFault 10 = .ok (.aload_n 0, 1) := by decide +kernel
theorem dX3_findFault_11 : decode cX3_findFault 11 = .ok (.getfield 20, 3) := by decide +kernel
theorem dX3_findFault_14 : decode cX3_findFault 14 = .ok (.bipush 20, 2) := by decide +kernel
theorem dX3_findFault_16 : decode cX3_findFault 16 = .ok (.if_icmp .ge 47, 3) := by decide +kernel
theorem dX3_findFault_19 : decode cX3_findFault 19 = .ok (.aload_n 0, 1) := by decide +kernel
theorem dX3_findFault_20 : decode cX3_findFault 20 = .ok (.invokevirtual 30, 3) := by decide +kernel
theorem dX3_findFault_23 : decode cX3_findFault 23 = .ok (.ifCond .eq 12, 3) := by decide +kernel
theorem dX3_findFault_26 : decode cX3_findFault 26 = .ok (.aload_n 0, 1) := by decide +kernel
theorem dX3_findFault_27 : decode cX3_findFault 27 = .ok (.bipush 59, 2) := by decide +kernel
theorem dX3_findFault_29 : decode cX3_findFault 29 = .ok (.invokevirtual 34, 3) := by decide +kernel
theorem dX3_findFault_32 : decode cX3_findFault 32 = .ok (.ifCond .ne 8, 3) := by decide +kernel
theorem dX3_findFault_35 : decode cX3_findFault 35 = .ok (.aload_n 0, 1) := by decide +kernel
theorem dX3_findFault_36 : decode cX3_findFault 36 = .ok (.getfield 17, 3) := by decide +kernel
theorem dX3_findFault_39 : decode cX3_findFault 39 = .ok (.ireturn, 1) := by decide +kernel
theorem dX3_findFault_40 : decode cX3_findFault 40 = .ok (.aload_n 0, 1) := by decide +kernel
theorem dX3_findFault_41 : decode cX3_findFault 41 = .ok (.dup, 1) := by decide +kernel
theorem dX3_findFault_42 : decode cX3_findFault 42 = .ok (.getfield 20, 3) := by decide +kernel
theorem dX3_findFault_45 : decode cX3_findFault 45 = .ok (.iconst 1, 1) := by decide +kernel
theorem dX3_findFault_46 : decode cX3_findFault 46 = .ok (.iadd, 1) := by decide +kernel
theorem dX3_findFault_47 : decode cX3_findFault 47 = .ok (.putfield 20, 3) := by decide +kernel
theorem dX3_findFault_50 : decode cX3_findFault 50 = .ok (.aload_n 0, 1) := by decide +kernel
theorem dX3_findFault_51 : decode cX3_findFault 51 = .ok (.getfield 17, 3) := by decide +kernel
theorem dX3_findFault_54 : decode cX3_findFault 54 = .ok (.aload_n 0, 1) := by decide +kernel
theorem dX3_findFault_55 : decode cX3_findFault 55 = .ok (.getfield 13, 3) := by decide +kernel
theorem dX3_findFault_58 : decode cX3_findFault 58 = .ok (.if_icmp .ne (-48), 3) := by decide +kernel
theorem dX3_findFault_61 : decode cX3_findFault 61 = .ok (.iconst (-1), 1) := by decide +kernel
theorem dX3_findFault_62 : decode cX3_findFault 62 = .ok (.ireturn, 1) := by decide +kernel
theorem dX3_findFault_63 : decode cX3_findFault 63 = .ok (.aload_n 0, 1) := by decide +kernel
theorem dX3_findFault_64 : decode cX3_findFault 64 = .ok (.getfield 17, 3) := by decide +kernel
theorem dX3_findFault_67 : decode cX3_findFault 67 = .ok (.ireturn, 1) := by decide +kernel
theorem dX3_readDefinition_0 : decode cX3_readDefinition 0 = .ok (.aload_n 0, 1) := by decide +kernel
theorem dX3_readDefinition_1 : decode cX3_readDefinition 1 = .ok (.invokevirtual 38, 3) := by decide +kernel
theorem dX3_readDefinition_4 : decode cX3_readDefinition 4 = .ok (.istore_n 1, 1) := by decide +kernel
theorem dX3_readDefinition_5 : decode cX3_readDefinition 5 = .ok (.aload_n 0, 1) := by decide +kernel
theorem dX3_readDefinition_6 : decode cX3_readDefinition 6 = .ok (.getfield 23, 3) := by decide +kernel
theorem dX3_readDefinition_9 : decode cX3_readDefinition 9 = .ok (.aload_n 0, 1) := by decide +kernel
theorem dX3_readDefinition_10 : decode cX3_readDefinition 10 = .ok (.getfield 20, 3) := by decide +kernel
theorem dX3_readDefinition_13 : decode cX3_readDefinition 13 = .ok (.iload_n 1, 1) := by decide +kernel
theorem dX3_readDefinition_14 : decode cX3_readDefinition 14 = .ok (.castore, 1) := by decide +kernel
theorem dX3_readDefinition_15 : decode cX3_readDefinition 15 = .ok (.iload_n 1, 1) := by decide +kernel
theorem dX3_readDefinition_16 : decode cX3_readDefinition 16 = .ok (.lookupswitch 297 #[(104, 273), (112, 52), (115, 130), (116, 232), (120, 208)], 52) := by decide +kernel
theorem dX3_readDefinition_68 : decode cX3_readDefinition 68 = .ok (.aload_n 0, 1) := by decide +kernel
theorem dX3_readDefinition_69 : decode cX3_readDefinition 69 = .ok (.bipush 112, 2) := by decide +kernel
theorem dX3_readDefinition_71 : decode cX3_readDefinition 71 = .ok (.invokevirtual 34, 3) := by decide +kernel
theorem dX3_readDefinition_74 : decode cX3_readDefinition 74 = .ok (.ifCond .eq 70, 3) := by decide +kernel
theorem dX3_readDefinition_77 : decode cX3_readDefinition 77 = .ok (.aload_n 0, 1) := by decide +kernel
theorem dX3_readDefinition_78 : decode cX3_readDefinition 78 = .ok (.iconst 0, 1) := by decide +kernel
theorem dX3_readDefinition_79 : decode cX3_readDefinition 79 = .ok (.iconst 1, 1) := by decide +kernel
theorem dX3_readDefinition_80 : decode cX3_readDefinition 80 = .ok (.invokevirtual 42, 3) := by decide +kernel
theorem dX3_readDefinition_83 : decode cX3_readDefinition 83 = .ok (.ifCond .eq 61, 3) := by decide +kernel
theorem dX3_readDefinition_86 : decode cX3_readDefinition 86 = .ok (.aload_n 0, 1) := by decide +kernel
theorem dX3_readDefinition_87 : decode cX3_readDefinition 87 = .ok (.bipush 45, 2) := by decide +kernel
theorem dX3_readDefinition_89 : decode cX3_readDefinition 89 = .ok (.invokevirtual 34, 3) := by decide +kernel
theorem dX3_readDefinition_92 : decode cX3_readDefinition 92 = .ok (.ifCond .eq 52, 3) := by decide +kernel
theorem dX3_readDefinition_95 : decode cX3_readDefinition 95 = .ok (.aload_n 0, 1) := by decide +kernel
theorem dX3_readDefinition_96 : decode cX3_readDefinition 96 = .ok (.iconst 1, 1) := by decide +kernel
theorem dX3_readDefinition_97 : decode cX3_readDefinition 97 = .ok (.iconst 1, 1) := by decide +kernel
theorem dX3_readDefinition_98 : decode cX3_readDefinition 98 = .ok (.invokevirtual 42, 3) := by decide +kernel
theorem dX3_readDefinition_101 : decode cX3_readDefinition 101 = .ok (.ifCond .eq 43, 3) := by decide +kernel
theorem dX3_readDefinition_104 : decode cX3_readDefinition 104 = .ok (.aload_n 0, 1) := by decide +kernel
theorem dX3_readDefinition_105 : decode cX3_readDefinition 105 = .ok (.bipush 58, 2) := by decide +kernel
theorem dX3_readDefinition_107 : decode cX3_readDefinition 107 = .ok (.invokevirtual 34, 3) := by decide +kernel
theorem dX3_readDefinition_110 : decode cX3_readDefinition 110 = .ok (.ifCond .eq 34, 3) := by decide +kernel
theorem dX3_readDefinition_113 : decode cX3_readDefinition 113 = .ok (.aload_n 0, 1) := by decide +kernel
theorem dX3_readDefinition_114 : decode cX3_readDefinition 114 = .ok (.iconst 2, 1) := by decide +kernel
theorem dX3_readDefinition_115 : decode cX3_readDefinition 115 = .ok (.iconst 3, 1) := by decide +kernel
theorem dX3_readDefinition_116 : decode cX3_readDefinition 116 = .ok (.invokevirtual 42, 3) := by decide +kernel
theorem dX3_readDefinition_119 : decode cX3_readDefinition 119 = .ok (.ifCond .eq 25, 3) := by decide +kernel
theorem dX3_readDefinition_122 : decode cX3_readDefinition 122 = .ok (.aload_n 0, 1) := by decide +kernel
theorem dX3_readDefinition_123 : decode cX3_readDefinition 123 = .ok (.bipush 44, 2) := by decide +kernel
theorem dX3_readDefinition_125 : decode cX3_readDefinition 125 = .ok (.invokevirtual 34, 3) := by decide +kernel
theorem dX3_readDefinition_128 : decode cX3_readDefinition 128 = .ok (.ifCond .eq 16, 3) := by decide +kernel
theorem dX3_readDefinition_131 : decode cX3_readDefinition 131 = .ok (.aload_n 0, 1) := by decide +kernel
theorem dX3_readDefinition_132 : decode cX3_readDefinition 132 = .ok (.iconst 3, 1) := by decide +kernel
theorem dX3_readDefinition_133 : decode cX3_readDefinition 133 = .ok (.iconst 3, 1) := by decide +kernel
theorem dX3_readDefinition_134 : decode cX3_readDefinition 134 = .ok (.invokevirtual 42, 3) := by decide +kernel
theorem dX3_readDefinition_137 : decode cX3_readDefinition 137 = .ok (.ifCond .eq 7, 3) := by decide +kernel
theorem dX3_readDefinition_140 : decode cX3_readDefinition 140 = .ok (.iconst 1, 1) := by decide +kernel
theorem dX3_readDefinition_141 : decode cX3_readDefinition 141 = .ok (.goto 4, 3) := by decide +kernel
theorem dX3_readDefinition_144 : decode cX3_readDefinition 144 = .ok (.iconst 0, 1) := by decide +kernel
theorem dX3_readDefinition_145 : decode cX3_readDefinition 145 = .ok (.ireturn, 1) := by decide +kernel
theorem dX3_readDefinition_146 : decode cX3_readDefinition 146 = .ok (.aload_n 0, 1) := by decide +kernel
theorem dX3_readDefinition_147 : decode cX3_readDefinition 147 = .ok (.bipush 115, 2) := by decide +kernel
theorem dX3_readDefinition_149 : decode cX3_readDefinition 149 = .ok (.invokevirtual 34, 3) := by decide +kernel
theorem dX3_readDefinition_152 : decode cX3_readDefinition 152 = .ok (.ifCond .eq 70, 3) := by decide +kernel
theorem dX3_readDefinition_155 : decode cX3_readDefinition 155 = .ok (.aload_n 0, 1) := by decide +kernel
theorem dX3_readDefinition_156 : decode cX3_readDefinition 156 = .ok (.iconst 0, 1) := by decide +kernel
theorem dX3_readDefinition_157 : decode cX3_readDefinition 157 = .ok (.iconst 1, 1) := by decide +kernel
theorem dX3_readDefinition_158 : decode cX3_readDefinition 158 = .ok (.invokevirtual 42, 3) := by decide +kernel
theorem dX3_readDefinition_161 : decode cX3_readDefinition 161 = .ok (.ifCond .eq 61, 3) := by decide +kernel
theorem dX3_readDefinition_164 : decode cX3_readDefinition 164 = .ok (.aload_n 0, 1) := by decide +kernel
theorem dX3_readDefinition_165 : decode cX3_readDefinition 165 = .ok (.bipush 58, 2) := by decide +kernel
theorem dX3_readDefinition_167 : decode cX3_readDefinition 167 = .ok (.invokevirtual 34, 3) := by decide +kernel
theorem dX3_readDefinition_170 : decode cX3_readDefinition 170 = .ok (.ifCond .eq 52, 3) := by decide +kernel
theorem dX3_readDefinition_173 : decode cX3_readDefinition 173 = .ok (.aload_n 0, 1) := by decide +kernel
theorem dX3_readDefinition_174 : decode cX3_readDefinition 174 = .ok (.iconst 1, 1) := by decide +kernel
theorem dX3_readDefinition_175 : decode cX3_readDefinition 175 = .ok (.iconst 3, 1) := by decide +kernel
theorem dX3_readDefinition_176 : decode cX3_readDefinition 176 = .ok (.invokevirtual 42, 3) := by decide +kernel
theorem dX3_readDefinition_179 : decode cX3_readDefinition 179 = .ok (.ifCond .eq 43, 3) := by decide +kernel
theorem dX3_readDefinition_182 : decode cX3_readDefinition 182 = .ok (.aload_n 0, 1) := by decide +kernel
theorem dX3_readDefinition_183 : decode cX3_readDefinition 183 = .ok (.bipush 44, 2) := by decide +kernel
theorem dX3_readDefinition_185 : decode cX3_readDefinition 185 = .ok (.invokevirtual 34, 3) := by decide +kernel
theorem dX3_readDefinition_188 : decode cX3_readDefinition 188 = .ok (.ifCond .eq 34, 3) := by decide +kernel
theorem dX3_readDefinition_191 : decode cX3_readDefinition 191 = .ok (.aload_n 0, 1) := by decide +kernel
theorem dX3_readDefinition_192 : decode cX3_readDefinition 192 = .ok (.iconst 2, 1) := by decide +kernel
theorem dX3_readDefinition_193 : decode cX3_readDefinition 193 = .ok (.iconst 3, 1) := by decide +kernel
theorem dX3_readDefinition_194 : decode cX3_readDefinition 194 = .ok (.invokevirtual 42, 3) := by decide +kernel
theorem dX3_readDefinition_197 : decode cX3_readDefinition 197 = .ok (.ifCond .eq 25, 3) := by decide +kernel
theorem dX3_readDefinition_200 : decode cX3_readDefinition 200 = .ok (.aload_n 0, 1) := by decide +kernel
theorem dX3_readDefinition_201 : decode cX3_readDefinition 201 = .ok (.bipush 44, 2) := by decide +kernel
theorem dX3_readDefinition_203 : decode cX3_readDefinition 203 = .ok (.invokevirtual 34, 3) := by decide +kernel
theorem dX3_readDefinition_206 : decode cX3_readDefinition 206 = .ok (.ifCond .eq 16, 3) := by decide +kernel
theorem dX3_readDefinition_209 : decode cX3_readDefinition 209 = .ok (.aload_n 0, 1) := by decide +kernel
theorem dX3_readDefinition_210 : decode cX3_readDefinition 210 = .ok (.iconst 3, 1) := by decide +kernel
theorem dX3_readDefinition_211 : decode cX3_readDefinition 211 = .ok (.iconst 3, 1) := by decide +kernel
theorem dX3_readDefinition_212 : decode cX3_readDefinition 212 = .ok (.invokevirtual 42, 3) := by decide +kernel
theorem dX3_readDefinition_215 : decode cX3_readDefinition 215 = .ok (.ifCond .eq 7, 3) := by decide +kernel
theorem dX3_readDefinition_218 : decode cX3_readDefinition 218 = .ok (.iconst 1, 1) := by decide +kernel
theorem dX3_readDefinition_219 : decode cX3_readDefinition 219 = .ok (.goto 4, 3) := by decide +kernel
theorem dX3_readDefinition_222 : decode cX3_readDefinition 222 = .ok (.iconst 0, 1) := by decide +kernel
theorem dX3_readDefinition_223 : decode cX3_readDefinition 223 = .ok (.ireturn, 1) := by decide +kernel
theorem dX3_readDefinition_224 : decode cX3_readDefinition 224 = .ok (.aload_n 0, 1) := by decide +kernel
theorem dX3_readDefinition_225 : decode cX3_readDefinition 225 = .ok (.bipush 120, 2) := by decide +kernel
theorem dX3_readDefinition_227 : decode cX3_readDefinition 227 = .ok (.invokevirtual 34, 3) := by decide +kernel
theorem dX3_readDefinition_230 : decode cX3_readDefinition 230 = .ok (.ifCond .eq 16, 3) := by decide +kernel
theorem dX3_readDefinition_233 : decode cX3_readDefinition 233 = .ok (.aload_n 0, 1) := by decide +kernel
theorem dX3_readDefinition_234 : decode cX3_readDefinition 234 = .ok (.iconst 0, 1) := by decide +kernel
theorem dX3_readDefinition_235 : decode cX3_readDefinition 235 = .ok (.iconst 1, 1) := by decide +kernel
theorem dX3_readDefinition_236 : decode cX3_readDefinition 236 = .ok (.invokevirtual 42, 3) := by decide +kernel
theorem dX3_readDefinition_239 : decode cX3_readDefinition 239 = .ok (.ifCond .eq 7, 3) := by decide +kernel
theorem dX3_readDefinition_242 : decode cX3_readDefinition 242 = .ok (.iconst 1, 1) := by decide +kernel
theorem dX3_readDefinition_243 : decode cX3_readDefinition 243 = .ok (.goto 4, 3) := by decide +kernel
theorem dX3_readDefinition_246 : decode cX3_readDefinition 246 = .ok (.iconst 0, 1) := by decide +kernel
theorem dX3_readDefinition_247 : decode cX3_readDefinition 247 = .ok (.ireturn, 1) := by decide +kernel
theorem dX3_readDefinition_248 : decode cX3_readDefinition 248 = .ok (.aload_n 0, 1) := by decide +kernel
theorem dX3_readDefinition_249 : decode cX3_readDefinition 249 = .ok (.bipush 116, 2) := by decide +kernel
theorem dX3_readDefinition_251 : decode cX3_readDefinition 251 = .ok (.invokevirtual 34, 3) := by decide +kernel
theorem dX3_readDefinition_254 : decode cX3_readDefinition 254 = .ok (.ifCond .eq 33, 3) := by decide +kernel
theorem dX3_readDefinition_257 : decode cX3_readDefinition 257 = .ok (.aload_n 0, 1) := by decide +kernel
theorem dX3_readDefinition_258 : decode cX3_readDefinition 258 = .ok (.iconst 0, 1) := by decide +kernel
theorem dX3_readDefinition_259 : decode cX3_readDefinition 259 = .ok (.iconst 1, 1) := by decide +kernel
theorem dX3_readDefinition_260 : decode cX3_readDefinition 260 = .ok (.invokevirtual 42, 3) := by decide +kernel
theorem dX3_readDefinition_263 : decode cX3_readDefinition 263 = .ok (.ifCond .eq 24, 3) := by decide +kernel
theorem dX3_readDefinition_266 : decode cX3_readDefinition 266 = .ok (.aload_n 0, 1) := by decide +kernel
theorem dX3_readDefinition_267 : decode cX3_readDefinition 267 = .ok (.bipush 61, 2) := by decide +kernel
theorem dX3_readDefinition_269 : decode cX3_readDefinition 269 = .ok (.invokevirtual 34, 3) := by decide +kernel
theorem dX3_readDefinition_272 : decode cX3_readDefinition 272 = .ok (.ifCond .eq 15, 3) := by decide +kernel
theorem dX3_readDefinition_275 : decode cX3_readDefinition 275 = .ok (.aload_n 0, 1) := by decide +kernel
theorem dX3_readDefinition_276 : decode cX3_readDefinition 276 = .ok (.iconst 1, 1) := by decide +kernel
theorem dX3_readDefinition_277 : decode cX3_readDefinition 277 = .ok (.invokevirtual 46, 3) := by decide +kernel
theorem dX3_readDefinition_280 : decode cX3_readDefinition 280 = .ok (.ifCond .eq 7, 3) := by decide +kernel
theorem dX3_readDefinition_283 : decode cX3_readDefinition 283 = .ok (.iconst 1, 1) := by decide +kernel
theorem dX3_readDefinition_284 : decode cX3_readDefinition 284 = .ok (.goto 4, 3) := by decide +kernel
theorem dX3_readDefinition_287 : decode cX3_readDefinition 287 = .ok (.iconst 0, 1) := by decide +kernel
theorem dX3_readDefinition_288 : decode cX3_readDefinition 288 = .ok (.ireturn, 1) := by decide +kernel
theorem dX3_readDefinition_289 : decode cX3_readDefinition 289 = .ok (.aload_n 0, 1) := by decide +kernel
theorem dX3_readDefinition_290 : decode cX3_readDefinition 290 = .ok (.bipush 104, 2) := by decide +kernel
theorem dX3_readDefinition_292 : decode cX3_readDefinition 292 = .ok (.invokevirtual 34, 3) := by decide +kernel
theorem dX3_readDefinition_295 : decode cX3_readDefinition 295 = .ok (.ifCond .eq 16, 3) := by decide +kernel
theorem dX3_readDefinition_298 : decode cX3_readDefinition 298 = .ok (.aload_n 0, 1) := by decide +kernel
theorem dX3_readDefinition_299 : decode cX3_readDefinition 299 = .ok (.iconst 0, 1) := by decide +kernel
theorem dX3_readDefinition_300 : decode cX3_readDefinition 300 = .ok (.iconst 3, 1) := by decide +kernel
theorem dX3_readDefinition_301 : decode cX3_readDefinition 301 = .ok (.invokevirtual 42, 3) := by decide +kernel
theorem dX3_readDefinition_304 : decode cX3_readDefinition 304 = .ok (.ifCond .eq 7, 3) := by decide +kernel
theorem dX3_readDefinition_307 : decode cX3_readDefinition 307 = .ok (.iconst 1, 1) := by decide +kernel
theorem dX3_readDefinition_308 : decode cX3_readDefinition 308 = .ok (.goto 4, 3) := by decide +kernel
theorem dX3_readDefinition_311 : decode cX3_readDefinition 311 = .ok (.iconst 0, 1) := by decide +kernel
theorem dX3_readDefinition_312 : decode cX3_readDefinition 312 = .ok (.ireturn, 1) := by decide +kernel
theorem dX3_readDefinition_313 : decode cX3_readDefinition 313 = .ok (.iconst 0, 1) := by decide +kernel
theorem dX3_readDefinition_314 : decode cX3_readDefinition 314 = .ok (.ireturn, 1) := by decide +kernel
theorem dX3_nextSign_0 : decode cX3_nextSign 0 = .ok (.aload_n 0, 1) := by decide +kernel
theorem dX3_nextSign_1 : decode cX3_nextSign 1 = .ok (.getfield 17, 3) := by decide +kernel
theorem dX3_nextSign_4 : decode cX3_nextSign 4 = .ok (.aload_n 0, 1) := by decide +kernel
theorem dX3_nextSign_5 : decode cX3_nextSign 5 = .ok (.getfield 13, 3) := by decide +kernel
theorem dX3_nextSign_8 : decode cX3_nextSign 8 = .ok (.if_icmp .ge 15, 3) := by decide +kernel
theorem dX3_nextSign_11 : decode cX3_nextSign 11 = .ok (.aload_n 0, 1) := by decide +kernel
theorem dX3_nextSign_12 : decode cX3_nextSign 12 = .ok (.getfield 9, 3) := by decide +kernel
theorem dX3_nextSign_15 : decode cX3_nextSign 15 = .ok (.aload_n 0, 1) := by decide +kernel
theorem dX3_nextSign_16 : decode cX3_nextSign 16 = .ok (.getfield 17, 3) := by decide +kernel
theorem dX3_nextSign_19 : decode cX3_nextSign 19 = .ok (.caload, 1) := by decide +kernel
theorem dX3_nextSign_20 : decode cX3_nextSign 20 = .ok (.goto 4, 3) := by decide +kernel
theorem dX3_nextSign_23 : decode cX3_nextSign 23 = .ok (.iconst 0, 1) := by decide +kernel
theorem dX3_nextSign_24 : decode cX3_nextSign 24 = .ok (.ireturn, 1) := by decide +kernel
theorem dX3_take_0 : decode cX3_take 0 = .ok (.aload_n 0, 1) := by decide +kernel
theorem dX3_take_1 : decode cX3_take 1 = .ok (.invokevirtual 38, 3) := by decide +kernel
theorem dX3_take_4 : decode cX3_take 4 = .ok (.iload_n 1, 1) := by decide +kernel
theorem dX3_take_5 : decode cX3_take 5 = .ok (.if_icmp .eq 5, 3) := by decide +kernel
theorem dX3_take_8 : decode cX3_take 8 = .ok (.iconst 0, 1) := by decide +kernel
theorem dX3_take_9 : decode cX3_take 9 = .ok (.ireturn, 1) := by decide +kernel
theorem dX3_take_10 : decode cX3_take 10 = .ok (.aload_n 0, 1) := by decide +kernel
theorem dX3_take_11 : decode cX3_take 11 = .ok (.dup, 1) := by decide +kernel
theorem dX3_take_12 : decode cX3_take 12 = .ok (.getfield 17, 3) := by decide +kernel
theorem dX3_take_15 : decode cX3_take 15 = .ok (.iconst 1, 1) := by decide +kernel
theorem dX3_take_16 : decode cX3_take 16 = .ok (.iadd, 1) := by decide +kernel
theorem dX3_take_17 : decode cX3_take 17 = .ok (.putfield 17, 3) := by decide +kernel
theorem dX3_take_20 : decode cX3_take 20 = .ok (.iconst 1, 1) := by decide +kernel
theorem dX3_take_21 : decode cX3_take 21 = .ok (.ireturn, 1) := by decide +kernel
theorem dX3_readNumber_0 : decode cX3_readNumber 0 = .ok (.iconst 0, 1) := by decide +kernel
theorem dX3_readNumber_1 : decode cX3_readNumber 1 = .ok (.istore_n 3, 1) := by decide +kernel
theorem dX3_readNumber_2 : decode cX3_readNumber 2 = .ok (.iconst 0, 1) := by decide +kernel
theorem dX3_readNumber_3 : decode cX3_readNumber 3 = .ok (.istore 4, 2) := by decide +kernel
theorem dX3_readNumber_5 : decode cX3_readNumber 5 = .ok (.iload 4, 2) := by decide +kernel
theorem dX3_readNumber_7 : decode cX3_readNumber 7 = .ok (.iload_n 2, 1) := by decide +kernel
theorem dX3_readNumber_8 : decode cX3_readNumber 8 = .ok (.if_icmp .ge 46, 3) := by decide +kernel
theorem dX3_readNumber_11 : decode cX3_readNumber 11 = .ok (.aload_n 0, 1) := by decide +kernel
theorem dX3_readNumber_12 : decode cX3_readNumber 12 = .ok (.invokevirtual 38, 3) := by decide +kernel
theorem dX3_readNumber_15 : decode cX3_readNumber 15 = .ok (.bipush 48, 2) := by decide +kernel
theorem dX3_readNumber_17 : decode cX3_readNumber 17 = .ok (.bipush 57, 2) := by decide +kernel
theorem dX3_readNumber_19 : decode cX3_readNumber 19 = .ok (.invokestatic 50, 3) := by decide +kernel
theorem dX3_readNumber_22 : decode cX3_readNumber 22 = .ok (.ifCond .eq 32, 3) := by decide +kernel
theorem dX3_readNumber_25 : decode cX3_readNumber 25 = .ok (.iload_n 3, 1) := by decide +kernel
theorem dX3_readNumber_26 : decode cX3_readNumber 26 = .ok (.bipush 10, 2) := by decide +kernel
theorem dX3_readNumber_28 : decode cX3_readNumber 28 = .ok (.imul, 1) := by decide +kernel
theorem dX3_readNumber_29 : decode cX3_readNumber 29 = .ok (.aload_n 0, 1) := by decide +kernel
theorem dX3_readNumber_30 : decode cX3_readNumber 30 = .ok (.invokevirtual 38, 3) := by decide +kernel
theorem dX3_readNumber_33 : decode cX3_readNumber 33 = .ok (.bipush 48, 2) := by decide +kernel
theorem dX3_readNumber_35 : decode cX3_readNumber 35 = .ok (.isub, 1) := by decide +kernel
theorem dX3_readNumber_36 : decode cX3_readNumber 36 = .ok (.iadd, 1) := by decide +kernel
theorem dX3_readNumber_37 : decode cX3_readNumber 37 = .ok (.istore_n 3, 1) := by decide +kernel
theorem dX3_readNumber_38 : decode cX3_readNumber 38 = .ok (.aload_n 0, 1) := by decide +kernel
theorem dX3_readNumber_39 : decode cX3_readNumber 39 = .ok (.dup, 1) := by decide +kernel
theorem dX3_readNumber_40 : decode cX3_readNumber 40 = .ok (.getfield 17, 3) := by decide +kernel
theorem dX3_readNumber_43 : decode cX3_readNumber 43 = .ok (.iconst 1, 1) := by decide +kernel
theorem dX3_readNumber_44 : decode cX3_readNumber 44 = .ok (.iadd, 1) := by decide +kernel
theorem dX3_readNumber_45 : decode cX3_readNumber 45 = .ok (.putfield 17, 3) := by decide +kernel
theorem dX3_readNumber_48 : decode cX3_readNumber 48 = .ok (.iinc 4 1, 3) := by decide +kernel
theorem dX3_readNumber_51 : decode cX3_readNumber 51 = .ok (.goto (-46), 3) := by decide +kernel
theorem dX3_readNumber_54 : decode cX3_readNumber 54 = .ok (.aload_n 0, 1) := by decide +kernel
theorem dX3_readNumber_55 : decode cX3_readNumber 55 = .ok (.getfield 26, 3) := by decide +kernel
theorem dX3_readNumber_58 : decode cX3_readNumber 58 = .ok (.aload_n 0, 1) := by decide +kernel
theorem dX3_readNumber_59 : decode cX3_readNumber 59 = .ok (.getfield 20, 3) := by decide +kernel
theorem dX3_readNumber_62 : decode cX3_readNumber 62 = .ok (.iconst 4, 1) := by decide +kernel
theorem dX3_readNumber_63 : decode cX3_readNumber 63 = .ok (.imul, 1) := by decide +kernel
theorem dX3_readNumber_64 : decode cX3_readNumber 64 = .ok (.iload_n 1, 1) := by decide +kernel
theorem dX3_readNumber_65 : decode cX3_readNumber 65 = .ok (.iadd, 1) := by decide +kernel
theorem dX3_readNumber_66 : decode cX3_readNumber 66 = .ok (.iload_n 3, 1) := by decide +kernel
theorem dX3_readNumber_67 : decode cX3_readNumber 67 = .ok (.iastore, 1) := by decide +kernel
theorem dX3_readNumber_68 : decode cX3_readNumber 68 = .ok (.iload 4, 2) := by decide +kernel
theorem dX3_readNumber_70 : decode cX3_readNumber 70 = .ok (.ifCond .le 7, 3) := by decide +kernel
theorem dX3_readNumber_73 : decode cX3_readNumber 73 = .ok (.iconst 1, 1) := by decide +kernel
theorem dX3_readNumber_74 : decode cX3_readNumber 74 = .ok (.goto 4, 3) := by decide +kernel
theorem dX3_readNumber_77 : decode cX3_readNumber 77 = .ok (.iconst 0, 1) := by decide +kernel
theorem dX3_readNumber_78 : decode cX3_readNumber 78 = .ok (.ireturn, 1) := by decide +kernel
theorem dX3_readSigned_0 : decode cX3_readSigned 0 = .ok (.aload_n 0, 1) := by decide +kernel
theorem dX3_readSigned_1 : decode cX3_readSigned 1 = .ok (.bipush 45, 2) := by decide +kernel
theorem dX3_readSigned_3 : decode cX3_readSigned 3 = .ok (.invokevirtual 34, 3) := by decide +kernel
theorem dX3_readSigned_6 : decode cX3_readSigned 6 = .ok (.istore_n 2, 1) := by decide +kernel
theorem dX3_readSigned_7 : decode cX3_readSigned 7 = .ok (.aload_n 0, 1) := by decide +kernel
theorem dX3_readSigned_8 : decode cX3_readSigned 8 = .ok (.iload_n 1, 1) := by decide +kernel
theorem dX3_readSigned_9 : decode cX3_readSigned 9 = .ok (.iconst 3, 1) := by decide +kernel
theorem dX3_readSigned_10 : decode cX3_readSigned 10 = .ok (.invokevirtual 42, 3) := by decide +kernel
theorem dX3_readSigned_13 : decode cX3_readSigned 13 = .ok (.ifCond .ne 5, 3) := by decide +kernel
theorem dX3_readSigned_16 : decode cX3_readSigned 16 = .ok (.iconst 0, 1) := by decide +kernel
theorem dX3_readSigned_17 : decode cX3_readSigned 17 = .ok (.ireturn, 1) := by decide +kernel
theorem dX3_readSigned_18 : decode cX3_readSigned 18 = .ok (.iload_n 2, 1) := by decide +kernel
theorem dX3_readSigned_19 : decode cX3_readSigned 19 = .ok (.ifCond .eq 26, 3) := by decide +kernel
theorem dX3_readSigned_22 : decode cX3_readSigned 22 = .ok (.aload_n 0, 1) := by decide +kernel
theorem dX3_readSigned_23 : decode cX3_readSigned 23 = .ok (.getfield 26, 3) := by decide +kernel
theorem dX3_readSigned_26 : decode cX3_readSigned 26 = .ok (.aload_n 0, 1) := by decide +kernel
theorem dX3_readSigned_27 : decode cX3_readSigned 27 = .ok (.getfield 20, 3) := by decide +kernel
theorem dX3_readSigned_30 : decode cX3_readSigned 30 = .ok (.iconst 4, 1) := by decide +kernel
theorem dX3_readSigned_31 : decode cX3_readSigned 31 = .ok (.imul, 1) := by decide +kernel
theorem dX3_readSigned_32 : decode cX3_readSigned 32 = .ok (.iload_n 1, 1) := by decide +kernel
theorem dX3_readSigned_33 : decode cX3_readSigned 33 = .ok (.iadd, 1) := by decide +kernel
theorem dX3_readSigned_34 : decode cX3_readSigned 34 = .ok (.aload_n 0, 1) := by decide +kernel
theorem dX3_readSigned_35 : decode cX3_readSigned 35 = .ok (.aload_n 0, 1) := by decide +kernel
theorem dX3_readSigned_36 : decode cX3_readSigned 36 = .ok (.getfield 20, 3) := by decide +kernel
theorem dX3_readSigned_39 : decode cX3_readSigned 39 = .ok (.iload_n 1, 1) := by decide +kernel
theorem dX3_readSigned_40 : decode cX3_readSigned 40 = .ok (.invokevirtual 56, 3) := by decide +kernel
theorem dX3_readSigned_43 : decode cX3_readSigned 43 = .ok (.ineg, 1) := by decide +kernel
theorem dX3_readSigned_44 : decode cX3_readSigned 44 = .ok (.iastore, 1) := by decide +kernel
theorem dX3_readSigned_45 : decode cX3_readSigned 45 = .ok (.iconst 1, 1) := by decide +kernel
theorem dX3_readSigned_46 : decode cX3_readSigned 46 = .ok (.ireturn, 1) := by decide +kernel
theorem dJx00060_init_a7421_0 : decode cJx00060_init_a7421 0 = .ok (.aload_n 0, 1) := by decide +kernel
theorem dJx00060_init_a7421_1 : decode cJx00060_init_a7421 1 = .ok (.aload_n 1, 1) := by decide +kernel
theorem dJx00060_init_a7421_2 : decode cJx00060_init_a7421 2 = .ok (.invokespecial 7, 3) := by decide +kernel
theorem dJx00060_init_a7421_5 : decode cJx00060_init_a7421 5 = .ok (.return_, 1) := by decide +kernel
theorem dJ6_bitCount_0f7a4_0 : decode cJ6_bitCount_0f7a4 0 = .ok (.iload_n 0, 1) := by decide +kernel
theorem dJ6_bitCount_0f7a4_1 : decode cJ6_bitCount_0f7a4 1 = .ok (.iload_n 0, 1) := by decide +kernel
theorem dJ6_bitCount_0f7a4_2 : decode cJ6_bitCount_0f7a4 2 = .ok (.iconst 1, 1) := by decide +kernel
theorem dJ6_bitCount_0f7a4_3 : decode cJ6_bitCount_0f7a4 3 = .ok (.iushr, 1) := by decide +kernel
theorem dJ6_bitCount_0f7a4_4 : decode cJ6_bitCount_0f7a4 4 = .ok (.ldc_w 265, 3) := by decide +kernel
theorem dJ6_bitCount_0f7a4_7 : decode cJ6_bitCount_0f7a4 7 = .ok (.iand, 1) := by decide +kernel
theorem dJ6_bitCount_0f7a4_8 : decode cJ6_bitCount_0f7a4 8 = .ok (.isub, 1) := by decide +kernel
theorem dJ6_bitCount_0f7a4_9 : decode cJ6_bitCount_0f7a4 9 = .ok (.istore_n 0, 1) := by decide +kernel
theorem dJ6_bitCount_0f7a4_10 : decode cJ6_bitCount_0f7a4 10 = .ok (.iload_n 0, 1) := by decide +kernel
theorem dJ6_bitCount_0f7a4_11 : decode cJ6_bitCount_0f7a4 11 = .ok (.ldc_w 266, 3) := by decide +kernel
theorem dJ6_bitCount_0f7a4_14 : decode cJ6_bitCount_0f7a4 14 = .ok (.iand, 1) := by decide +kernel
theorem dJ6_bitCount_0f7a4_15 : decode cJ6_bitCount_0f7a4 15 = .ok (.iload_n 0, 1) := by decide +kernel
theorem dJ6_bitCount_0f7a4_16 : decode cJ6_bitCount_0f7a4 16 = .ok (.iconst 2, 1) := by decide +kernel
theorem dJ6_bitCount_0f7a4_17 : decode cJ6_bitCount_0f7a4 17 = .ok (.iushr, 1) := by decide +kernel
theorem dJ6_bitCount_0f7a4_18 : decode cJ6_bitCount_0f7a4 18 = .ok (.ldc_w 266, 3) := by decide +kernel
theorem dJ6_bitCount_0f7a4_21 : decode cJ6_bitCount_0f7a4 21 = .ok (.iand, 1) := by decide +kernel
theorem dJ6_bitCount_0f7a4_22 : decode cJ6_bitCount_0f7a4 22 = .ok (.iadd, 1) := by decide +kernel
theorem dJ6_bitCount_0f7a4_23 : decode cJ6_bitCount_0f7a4 23 = .ok (.istore_n 0, 1) := by decide +kernel
theorem dJ6_bitCount_0f7a4_24 : decode cJ6_bitCount_0f7a4 24 = .ok (.iload_n 0, 1) := by decide +kernel
theorem dJ6_bitCount_0f7a4_25 : decode cJ6_bitCount_0f7a4 25 = .ok (.iload_n 0, 1) := by decide +kernel
theorem dJ6_bitCount_0f7a4_26 : decode cJ6_bitCount_0f7a4 26 = .ok (.iconst 4, 1) := by decide +kernel
theorem dJ6_bitCount_0f7a4_27 : decode cJ6_bitCount_0f7a4 27 = .ok (.iushr, 1) := by decide +kernel
theorem dJ6_bitCount_0f7a4_28 : decode cJ6_bitCount_0f7a4 28 = .ok (.iadd, 1) := by decide +kernel
theorem dJ6_bitCount_0f7a4_29 : decode cJ6_bitCount_0f7a4 29 = .ok (.ldc_w 267, 3) := by decide +kernel
theorem dJ6_bitCount_0f7a4_32 : decode cJ6_bitCount_0f7a4 32 = .ok (.iand, 1) := by decide +kernel
theorem dJ6_bitCount_0f7a4_33 : decode cJ6_bitCount_0f7a4 33 = .ok (.istore_n 0, 1) := by decide +kernel
theorem dJ6_bitCount_0f7a4_34 : decode cJ6_bitCount_0f7a4 34 = .ok (.iload_n 0, 1) := by decide +kernel
theorem dJ6_bitCount_0f7a4_35 : decode cJ6_bitCount_0f7a4 35 = .ok (.iload_n 0, 1) := by decide +kernel
theorem dJ6_bitCount_0f7a4_36 : decode cJ6_bitCount_0f7a4 36 = .ok (.bipush 8, 2) := by decide +kernel
theorem dJ6_bitCount_0f7a4_38 : decode cJ6_bitCount_0f7a4 38 = .ok (.iushr, 1) := by decide +kernel
theorem dJ6_bitCount_0f7a4_39 : decode cJ6_bitCount_0f7a4 39 = .ok (.iadd, 1) := by decide +kernel
theorem dJ6_bitCount_0f7a4_40 : decode cJ6_bitCount_0f7a4 40 = .ok (.istore_n 0, 1) := by decide +kernel
theorem dJ6_bitCount_0f7a4_41 : decode cJ6_bitCount_0f7a4 41 = .ok (.iload_n 0, 1) := by decide +kernel
theorem dJ6_bitCount_0f7a4_42 : decode cJ6_bitCount_0f7a4 42 = .ok (.iload_n 0, 1) := by decide +kernel
theorem dJ6_bitCount_0f7a4_43 : decode cJ6_bitCount_0f7a4 43 = .ok (.bipush 16, 2) := by decide +kernel
theorem dJ6_bitCount_0f7a4_45 : decode cJ6_bitCount_0f7a4 45 = .ok (.iushr, 1) := by decide +kernel
theorem dJ6_bitCount_0f7a4_46 : decode cJ6_bitCount_0f7a4 46 = .ok (.iadd, 1) := by decide +kernel
theorem dJ6_bitCount_0f7a4_47 : decode cJ6_bitCount_0f7a4 47 = .ok (.istore_n 0, 1) := by decide +kernel
theorem dJ6_bitCount_0f7a4_48 : decode cJ6_bitCount_0f7a4 48 = .ok (.iload_n 0, 1) := by decide +kernel
theorem dJ6_bitCount_0f7a4_49 : decode cJ6_bitCount_0f7a4 49 = .ok (.bipush 63, 2) := by decide +kernel
theorem dJ6_bitCount_0f7a4_51 : decode cJ6_bitCount_0f7a4 51 = .ok (.iand, 1) := by decide +kernel
theorem dJ6_bitCount_0f7a4_52 : decode cJ6_bitCount_0f7a4 52 = .ok (.ireturn, 1) := by decide +kernel
theorem dJ9_floorDiv_7cf53_0 : decode cJ9_floorDiv_7cf53 0 = .ok (.iload_n 0, 1) := by decide +kernel
theorem dJ9_floorDiv_7cf53_1 : decode cJ9_floorDiv_7cf53 1 = .ok (.iload_n 1, 1) := by decide +kernel
theorem dJ9_floorDiv_7cf53_2 : decode cJ9_floorDiv_7cf53 2 = .ok (.idiv, 1) := by decide +kernel
theorem dJ9_floorDiv_7cf53_3 : decode cJ9_floorDiv_7cf53 3 = .ok (.istore_n 2, 1) := by decide +kernel
theorem dJ9_floorDiv_7cf53_4 : decode cJ9_floorDiv_7cf53 4 = .ok (.iload_n 0, 1) := by decide +kernel
theorem dJ9_floorDiv_7cf53_5 : decode cJ9_floorDiv_7cf53 5 = .ok (.iload_n 1, 1) := by decide +kernel
theorem dJ9_floorDiv_7cf53_6 : decode cJ9_floorDiv_7cf53 6 = .ok (.ixor, 1) := by decide +kernel
theorem dJ9_floorDiv_7cf53_7 : decode cJ9_floorDiv_7cf53 7 = .ok (.ifCond .ge 14, 3) := by decide +kernel
theorem dJ9_floorDiv_7cf53_10 : decode cJ9_floorDiv_7cf53 10 = .ok (.iload_n 2, 1) := by decide +kernel
theorem dJ9_floorDiv_7cf53_11 : decode cJ9_floorDiv_7cf53 11 = .ok (.iload_n 1, 1) := by decide +kernel
theorem dJ9_floorDiv_7cf53_12 : decode cJ9_floorDiv_7cf53 12 = .ok (.imul, 1) := by decide +kernel
theorem dJ9_floorDiv_7cf53_13 : decode cJ9_floorDiv_7cf53 13 = .ok (.iload_n 0, 1) := by decide +kernel
theorem dJ9_floorDiv_7cf53_14 : decode cJ9_floorDiv_7cf53 14 = .ok (.if_icmp .eq 7, 3) := by decide +kernel
theorem dJ9_floorDiv_7cf53_17 : decode cJ9_floorDiv_7cf53 17 = .ok (.iload_n 2, 1) := by decide +kernel
theorem dJ9_floorDiv_7cf53_18 : decode cJ9_floorDiv_7cf53 18 = .ok (.iconst 1, 1) := by decide +kernel
theorem dJ9_floorDiv_7cf53_19 : decode cJ9_floorDiv_7cf53 19 = .ok (.isub, 1) := by decide +kernel
theorem dJ9_floorDiv_7cf53_20 : decode cJ9_floorDiv_7cf53 20 = .ok (.ireturn, 1) := by decide +kernel
theorem dJ9_floorDiv_7cf53_21 : decode cJ9_floorDiv_7cf53 21 = .ok (.iload_n 2, 1) := by decide +kernel
theorem dJ9_floorDiv_7cf53_22 : decode cJ9_floorDiv_7cf53 22 = .ok (.ireturn, 1) := by decide +kernel
theorem dJ9_floorDiv_f86c9_0 : decode cJ9_floorDiv_f86c9 0 = .ok (.lload_n 0, 1) := by decide +kernel
theorem dJ9_floorDiv_f86c9_1 : decode cJ9_floorDiv_f86c9 1 = .ok (.lload_n 2, 1) := by decide +kernel
theorem dJ9_floorDiv_f86c9_2 : decode cJ9_floorDiv_f86c9 2 = .ok (.ldiv, 1) := by decide +kernel
theorem dJ9_floorDiv_f86c9_3 : decode cJ9_floorDiv_f86c9 3 = .ok (.lstore 4, 2) := by decide +kernel
theorem dJ9_floorDiv_f86c9_5 : decode cJ9_floorDiv_f86c9 5 = .ok (.lload_n 0, 1) := by decide +kernel
theorem dJ9_floorDiv_f86c9_6 : decode cJ9_floorDiv_f86c9 6 = .ok (.lload_n 2, 1) := by decide +kernel
theorem dJ9_floorDiv_f86c9_7 : decode cJ9_floorDiv_f86c9 7 = .ok (.lxor, 1) := by decide +kernel
theorem dJ9_floorDiv_f86c9_8 : decode cJ9_floorDiv_f86c9 8 = .ok (.lconst 0, 1) := by decide +kernel
theorem dJ9_floorDiv_f86c9_9 : decode cJ9_floorDiv_f86c9 9 = .ok (.lcmp, 1) := by decide +kernel
theorem dJ9_floorDiv_f86c9_10 : decode cJ9_floorDiv_f86c9 10 = .ok (.ifCond .ge 17, 3) := by decide +kernel
theorem dJ9_floorDiv_f86c9_13 : decode cJ9_floorDiv_f86c9 13 = .ok (.lload 4, 2) := by decide +kernel
theorem dJ9_floorDiv_f86c9_15 : decode cJ9_floorDiv_f86c9 15 = .ok (.lload_n 2, 1) := by decide +kernel
theorem dJ9_floorDiv_f86c9_16 : decode cJ9_floorDiv_f86c9 16 = .ok (.lmul, 1) := by decide +kernel
theorem dJ9_floorDiv_f86c9_17 : decode cJ9_floorDiv_f86c9 17 = .ok (.lload_n 0, 1) := by decide +kernel
theorem dJ9_floorDiv_f86c9_18 : decode cJ9_floorDiv_f86c9 18 = .ok (.lcmp, 1) := by decide +kernel
theorem dJ9_floorDiv_f86c9_19 : decode cJ9_floorDiv_f86c9 19 = .ok (.ifCond .eq 8, 3) := by decide +kernel
theorem dJ9_floorDiv_f86c9_22 : decode cJ9_floorDiv_f86c9 22 = .ok (.lload 4, 2) := by decide +kernel
theorem dJ9_floorDiv_f86c9_24 : decode cJ9_floorDiv_f86c9 24 = .ok (.lconst 1, 1) := by decide +kernel
theorem dJ9_floorDiv_f86c9_25 : decode cJ9_floorDiv_f86c9 25 = .ok (.lsub, 1) := by decide +kernel
theorem dJ9_floorDiv_f86c9_26 : decode cJ9_floorDiv_f86c9 26 = .ok (.lreturn, 1) := by decide +kernel
theorem dJ9_floorDiv_f86c9_27 : decode cJ9_floorDiv_f86c9 27 = .ok (.lload 4, 2) := by decide +kernel
theorem dJ9_floorDiv_f86c9_29 : decode cJ9_floorDiv_f86c9 29 = .ok (.lreturn, 1) := by decide +kernel
theorem dJ9_floorMod_f86c9_0 : decode cJ9_floorMod_f86c9 0 = .ok (.lload_n 0, 1) := by decide +kernel
theorem dJ9_floorMod_f86c9_1 : decode cJ9_floorMod_f86c9 1 = .ok (.lload_n 2, 1) := by decide +kernel
theorem dJ9_floorMod_f86c9_2 : decode cJ9_floorMod_f86c9 2 = .ok (.lrem, 1) := by decide +kernel
theorem dJ9_floorMod_f86c9_3 : decode cJ9_floorMod_f86c9 3 = .ok (.lstore 4, 2) := by decide +kernel
theorem dJ9_floorMod_f86c9_5 : decode cJ9_floorMod_f86c9 5 = .ok (.lload_n 0, 1) := by decide +kernel
theorem dJ9_floorMod_f86c9_6 : decode cJ9_floorMod_f86c9 6 = .ok (.lload_n 2, 1) := by decide +kernel
theorem dJ9_floorMod_f86c9_7 : decode cJ9_floorMod_f86c9 7 = .ok (.lxor, 1) := by decide +kernel
theorem dJ9_floorMod_f86c9_8 : decode cJ9_floorMod_f86c9 8 = .ok (.lconst 0, 1) := by decide +kernel
theorem dJ9_floorMod_f86c9_9 : decode cJ9_floorMod_f86c9 9 = .ok (.lcmp, 1) := by decide +kernel
theorem dJ9_floorMod_f86c9_10 : decode cJ9_floorMod_f86c9 10 = .ok (.ifCond .ge 15, 3) := by decide +kernel
theorem dJ9_floorMod_f86c9_13 : decode cJ9_floorMod_f86c9 13 = .ok (.lload 4, 2) := by decide +kernel
theorem dJ9_floorMod_f86c9_15 : decode cJ9_floorMod_f86c9 15 = .ok (.lconst 0, 1) := by decide +kernel
theorem dJ9_floorMod_f86c9_16 : decode cJ9_floorMod_f86c9 16 = .ok (.lcmp, 1) := by decide +kernel
theorem dJ9_floorMod_f86c9_17 : decode cJ9_floorMod_f86c9 17 = .ok (.ifCond .eq 8, 3) := by decide +kernel
theorem dJ9_floorMod_f86c9_20 : decode cJ9_floorMod_f86c9 20 = .ok (.lload 4, 2) := by decide +kernel
theorem dJ9_floorMod_f86c9_22 : decode cJ9_floorMod_f86c9 22 = .ok (.lload_n 2, 1) := by decide +kernel
theorem dJ9_floorMod_f86c9_23 : decode cJ9_floorMod_f86c9 23 = .ok (.ladd, 1) := by decide +kernel
theorem dJ9_floorMod_f86c9_24 : decode cJ9_floorMod_f86c9 24 = .ok (.lreturn, 1) := by decide +kernel
theorem dJ9_floorMod_f86c9_25 : decode cJ9_floorMod_f86c9 25 = .ok (.lload 4, 2) := by decide +kernel
theorem dJ9_floorMod_f86c9_27 : decode cJ9_floorMod_f86c9 27 = .ok (.lreturn, 1) := by decide +kernel
theorem dJ9_abs_0f7a4_0 : decode cJ9_abs_0f7a4 0 = .ok (.iload_n 0, 1) := by decide +kernel
theorem dJ9_abs_0f7a4_1 : decode cJ9_abs_0f7a4 1 = .ok (.ifCond .ge 8, 3) := by decide +kernel
theorem dJ9_abs_0f7a4_4 : decode cJ9_abs_0f7a4 4 = .ok (.iload_n 0, 1) := by decide +kernel
theorem dJ9_abs_0f7a4_5 : decode cJ9_abs_0f7a4 5 = .ok (.ineg, 1) := by decide +kernel
theorem dJ9_abs_0f7a4_6 : decode cJ9_abs_0f7a4 6 = .ok (.goto 4, 3) := by decide +kernel
theorem dJ9_abs_0f7a4_9 : decode cJ9_abs_0f7a4 9 = .ok (.iload_n 0, 1) := by decide +kernel
theorem dJ9_abs_0f7a4_10 : decode cJ9_abs_0f7a4 10 = .ok (.ireturn, 1) := by decide +kernel
theorem dJ9_abs_067f4_0 : decode cJ9_abs_067f4 0 = .ok (.lload_n 0, 1) := by decide +kernel
theorem dJ9_abs_067f4_1 : decode cJ9_abs_067f4 1 = .ok (.lconst 0, 1) := by decide +kernel
theorem dJ9_abs_067f4_2 : decode cJ9_abs_067f4 2 = .ok (.lcmp, 1) := by decide +kernel
theorem dJ9_abs_067f4_3 : decode cJ9_abs_067f4 3 = .ok (.ifCond .ge 8, 3) := by decide +kernel
theorem dJ9_abs_067f4_6 : decode cJ9_abs_067f4 6 = .ok (.lload_n 0, 1) := by decide +kernel
theorem dJ9_abs_067f4_7 : decode cJ9_abs_067f4 7 = .ok (.lneg, 1) := by decide +kernel
theorem dJ9_abs_067f4_8 : decode cJ9_abs_067f4 8 = .ok (.goto 4, 3) := by decide +kernel
theorem dJ9_abs_067f4_11 : decode cJ9_abs_067f4 11 = .ok (.lload_n 0, 1) := by decide +kernel
theorem dJ9_abs_067f4_12 : decode cJ9_abs_067f4 12 = .ok (.lreturn, 1) := by decide +kernel
theorem dJ9_max_7cf53_0 : decode cJ9_max_7cf53 0 = .ok (.iload_n 0, 1) := by decide +kernel
theorem dJ9_max_7cf53_1 : decode cJ9_max_7cf53 1 = .ok (.iload_n 1, 1) := by decide +kernel
theorem dJ9_max_7cf53_2 : decode cJ9_max_7cf53 2 = .ok (.if_icmp .lt 7, 3) := by decide +kernel
theorem dJ9_max_7cf53_5 : decode cJ9_max_7cf53 5 = .ok (.iload_n 0, 1) := by decide +kernel
theorem dJ9_max_7cf53_6 : decode cJ9_max_7cf53 6 = .ok (.goto 4, 3) := by decide +kernel
theorem dJ9_max_7cf53_9 : decode cJ9_max_7cf53 9 = .ok (.iload_n 1, 1) := by decide +kernel
theorem dJ9_max_7cf53_10 : decode cJ9_max_7cf53 10 = .ok (.ireturn, 1) := by decide +kernel
theorem dJ9_max_f86c9_0 : decode cJ9_max_f86c9 0 = .ok (.lload_n 0, 1) := by decide +kernel
theorem dJ9_max_f86c9_1 : decode cJ9_max_f86c9 1 = .ok (.lload_n 2, 1) := by decide +kernel
theorem dJ9_max_f86c9_2 : decode cJ9_max_f86c9 2 = .ok (.lcmp, 1) := by decide +kernel
theorem dJ9_max_f86c9_3 : decode cJ9_max_f86c9 3 = .ok (.ifCond .lt 7, 3) := by decide +kernel
theorem dJ9_max_f86c9_6 : decode cJ9_max_f86c9 6 = .ok (.lload_n 0, 1) := by decide +kernel
theorem dJ9_max_f86c9_7 : decode cJ9_max_f86c9 7 = .ok (.goto 4, 3) := by decide +kernel
theorem dJ9_max_f86c9_10 : decode cJ9_max_f86c9 10 = .ok (.lload_n 2, 1) := by decide +kernel
theorem dJ9_max_f86c9_11 : decode cJ9_max_f86c9 11 = .ok (.lreturn, 1) := by decide +kernel
theorem dJ9_min_7cf53_0 : decode cJ9_min_7cf53 0 = .ok (.iload_n 0, 1) := by decide +kernel
theorem dJ9_min_7cf53_1 : decode cJ9_min_7cf53 1 = .ok (.iload_n 1, 1) := by decide +kernel
theorem dJ9_min_7cf53_2 : decode cJ9_min_7cf53 2 = .ok (.if_icmp .gt 7, 3) := by decide +kernel
theorem dJ9_min_7cf53_5 : decode cJ9_min_7cf53 5 = .ok (.iload_n 0, 1) := by decide +kernel
theorem dJ9_min_7cf53_6 : decode cJ9_min_7cf53 6 = .ok (.goto 4, 3) := by decide +kernel
theorem dJ9_min_7cf53_9 : decode cJ9_min_7cf53 9 = .ok (.iload_n 1, 1) := by decide +kernel
theorem dJ9_min_7cf53_10 : decode cJ9_min_7cf53 10 = .ok (.ireturn, 1) := by decide +kernel
theorem dJ7_fill_d0a16_0 : decode cJ7_fill_d0a16 0 = .ok (.iconst 0, 1) := by decide +kernel
theorem dJ7_fill_d0a16_1 : decode cJ7_fill_d0a16 1 = .ok (.istore_n 3, 1) := by decide +kernel
theorem dJ7_fill_d0a16_2 : decode cJ7_fill_d0a16 2 = .ok (.aload_n 0, 1) := by decide +kernel
theorem dJ7_fill_d0a16_3 : decode cJ7_fill_d0a16 3 = .ok (.arraylength, 1) := by decide +kernel
theorem dJ7_fill_d0a16_4 : decode cJ7_fill_d0a16 4 = .ok (.istore 4, 2) := by decide +kernel
theorem dJ7_fill_d0a16_6 : decode cJ7_fill_d0a16 6 = .ok (.iload_n 3, 1) := by decide +kernel
theorem dJ7_fill_d0a16_7 : decode cJ7_fill_d0a16 7 = .ok (.iload 4, 2) := by decide +kernel
theorem dJ7_fill_d0a16_9 : decode cJ7_fill_d0a16 9 = .ok (.if_icmp .ge 13, 3) := by decide +kernel
theorem dJ7_fill_d0a16_12 : decode cJ7_fill_d0a16 12 = .ok (.aload_n 0, 1) := by decide +kernel
theorem dJ7_fill_d0a16_13 : decode cJ7_fill_d0a16 13 = .ok (.iload_n 3, 1) := by decide +kernel
theorem dJ7_fill_d0a16_14 : decode cJ7_fill_d0a16 14 = .ok (.lload_n 1, 1) := by decide +kernel
theorem dJ7_fill_d0a16_15 : decode cJ7_fill_d0a16 15 = .ok (.lastore, 1) := by decide +kernel
theorem dJ7_fill_d0a16_16 : decode cJ7_fill_d0a16 16 = .ok (.iinc 3 1, 3) := by decide +kernel
theorem dJ7_fill_d0a16_19 : decode cJ7_fill_d0a16 19 = .ok (.goto (-13), 3) := by decide +kernel
theorem dJ7_fill_d0a16_22 : decode cJ7_fill_d0a16 22 = .ok (.return_, 1) := by decide +kernel
theorem dJ7_fill_53178_0 : decode cJ7_fill_53178 0 = .ok (.iconst 0, 1) := by decide +kernel
theorem dJ7_fill_53178_1 : decode cJ7_fill_53178 1 = .ok (.istore_n 2, 1) := by decide +kernel
theorem dJ7_fill_53178_2 : decode cJ7_fill_53178 2 = .ok (.aload_n 0, 1) := by decide +kernel
theorem dJ7_fill_53178_3 : decode cJ7_fill_53178 3 = .ok (.arraylength, 1) := by decide +kernel
theorem dJ7_fill_53178_4 : decode cJ7_fill_53178 4 = .ok (.istore_n 3, 1) := by decide +kernel
theorem dJ7_fill_53178_5 : decode cJ7_fill_53178 5 = .ok (.iload_n 2, 1) := by decide +kernel
theorem dJ7_fill_53178_6 : decode cJ7_fill_53178 6 = .ok (.iload_n 3, 1) := by decide +kernel
theorem dJ7_fill_53178_7 : decode cJ7_fill_53178 7 = .ok (.if_icmp .ge 13, 3) := by decide +kernel
theorem dJ7_fill_53178_10 : decode cJ7_fill_53178 10 = .ok (.aload_n 0, 1) := by decide +kernel
theorem dJ7_fill_53178_11 : decode cJ7_fill_53178 11 = .ok (.iload_n 2, 1) := by decide +kernel
theorem dJ7_fill_53178_12 : decode cJ7_fill_53178 12 = .ok (.iload_n 1, 1) := by decide +kernel
theorem dJ7_fill_53178_13 : decode cJ7_fill_53178 13 = .ok (.iastore, 1) := by decide +kernel
theorem dJ7_fill_53178_14 : decode cJ7_fill_53178 14 = .ok (.iinc 2 1, 3) := by decide +kernel
theorem dJ7_fill_53178_17 : decode cJ7_fill_53178 17 = .ok (.goto (-12), 3) := by decide +kernel
theorem dJ7_fill_53178_20 : decode cJ7_fill_53178 20 = .ok (.return_, 1) := by decide +kernel
