theorem dX5_stationBy_75 : decode cX5_stationBy 75 = .ok (.iconst 1, 1) := by decide +kernel
theorem dX5_stationBy_76 : decode cX5_stationBy 76 = .ok (.iastore, 1) := by decide +kernel
theorem dX5_stationBy_77 : decode cX5_stationBy 77 = .ok (.aload_n 0, 1) := by decide +kernel
theorem dX5_stationBy_78 : decode cX5_stationBy 78 = .ok (.getfield 9, 3) := by decide +kernel
theorem dX5_stationBy_81 : decode cX5_stationBy 81 = .ok (.iload 5, 2) := by decide +kernel
theorem dX5_stationBy_83 : decode cX5_stationBy 83 = .ok (.iconst 1, 1) := by decide +kernel
theorem dX5_stationBy_84 : decode cX5_stationBy 84 = .ok (.iadd, 1) := by decide +kernel
theorem dX5_stationBy_85 : decode cX5_stationBy 85 = .ok (.iload_n 2, 1) := by decide +kernel
theorem dX5_stationBy_86 : decode cX5_stationBy 86 = .ok (.iastore, 1) := by decide +kernel
theorem dX5_stationBy_87 : decode cX5_stationBy 87 = .ok (.aload_n 0, 1) := by decide +kernel
theorem dX5_stationBy_88 : decode cX5_stationBy 88 = .ok (.getfield 9, 3) := by decide +kernel
theorem dX5_stationBy_91 : decode cX5_stationBy 91 = .ok (.iload 5, 2) := by decide +kernel
theorem dX5_stationBy_93 : decode cX5_stationBy 93 = .ok (.iconst 2, 1) := by decide +kernel
theorem dX5_stationBy_94 : decode cX5_stationBy 94 = .ok (.iadd, 1) := by decide +kernel
theorem dX5_stationBy_95 : decode cX5_stationBy 95 = .ok (.iload_n 3, 1) := by decide +kernel
theorem dX5_stationBy_96 : decode cX5_stationBy 96 = .ok (.iastore, 1) := by decide +kernel
theorem dX5_stationBy_97 : decode cX5_stationBy 97 = .ok (.aload_n 0, 1) := by decide +kernel
theorem dX5_stationBy_98 : decode cX5_stationBy 98 = .ok (.getfield 9, 3) := by decide +kernel
theorem dX5_stationBy_101 : decode cX5_stationBy 101 = .ok (.iload 5, 2) := by decide +kernel
theorem dX5_stationBy_103 : decode cX5_stationBy 103 = .ok (.iconst 3, 1) := by decide +kernel
theorem dX5_stationBy_104 : decode cX5_stationBy 104 = .ok (.iadd, 1) := by decide +kernel
theorem dX5_stationBy_105 : decode cX5_stationBy 105 = .ok (.iload 4, 2) := by decide +kernel
theorem dX5_stationBy_107 : decode cX5_stationBy 107 = .ok (.iastore, 1) := by decide +kernel
theorem dX5_stationBy_108 : decode cX5_stationBy 108 = .ok (.aload_n 0, 1) := by decide +kernel
theorem dX5_stationBy_109 : decode cX5_stationBy 109 = .ok (.getfield 9, 3) := by decide +kernel
theorem dX5_stationBy_112 : decode cX5_stationBy 112 = .ok (.iload 5, 2) := by decide +kernel
theorem dX5_stationBy_114 : decode cX5_stationBy 114 = .ok (.iconst 4, 1) := by decide +kernel
theorem dX5_stationBy_115 : decode cX5_stationBy 115 = .ok (.iadd, 1) := by decide +kernel
theorem dX5_stationBy_116 : decode cX5_stationBy 116 = .ok (.iconst 0, 1) := by decide +kernel
theorem dX5_stationBy_117 : decode cX5_stationBy 117 = .ok (.iastore, 1) := by decide +kernel
theorem dX5_stationBy_118 : decode cX5_stationBy 118 = .ok (.aload_n 0, 1) := by decide +kernel
theorem dX5_stationBy_119 : decode cX5_stationBy 119 = .ok (.getfield 9, 3) := by decide +kernel
theorem dX5_stationBy_122 : decode cX5_stationBy 122 = .ok (.iload 5, 2) := by decide +kernel
theorem dX5_stationBy_124 : decode cX5_stationBy 124 = .ok (.iconst 5, 1) := by decide +kernel
theorem dX5_stationBy_125 : decode cX5_stationBy 125 = .ok (.iadd, 1) := by decide +kernel
theorem dX5_stationBy_126 : decode cX5_stationBy 126 = .ok (.sipush 1000, 3) := by decide +kernel
theorem dX5_stationBy_129 : decode cX5_stationBy 129 = .ok (.iastore, 1) := by decide +kernel
theorem dX5_stationBy_130 : decode cX5_stationBy 130 = .ok (.iconst 0, 1) := by decide +kernel
theorem dX5_stationBy_131 : decode cX5_stationBy 131 = .ok (.istore 6, 2) := by decide +kernel
theorem dX5_stationBy_133 : decode cX5_stationBy 133 = .ok (.iload 6, 2) := by decide +kernel
theorem dX5_stationBy_135 : decode cX5_stationBy 135 = .ok (.iconst 3, 1) := by decide +kernel
theorem dX5_stationBy_136 : decode cX5_stationBy 136 = .ok (.if_icmp .ge 22, 3) := by decide +kernel
theorem dX5_stationBy_139 : decode cX5_stationBy 139 = .ok (.aload_n 0, 1) := by decide +kernel
theorem dX5_stationBy_140 : decode cX5_stationBy 140 = .ok (.getfield 13, 3) := by decide +kernel
theorem dX5_stationBy_143 : decode cX5_stationBy 143 = .ok (.bipush 10, 2) := by decide +kernel
theorem dX5_stationBy_145 : decode cX5_stationBy 145 = .ok (.iload 6, 2) := by decide +kernel
theorem dX5_stationBy_147 : decode cX5_stationBy 147 = .ok (.imul, 1) := by decide +kernel
theorem dX5_stationBy_148 : decode cX5_stationBy 148 = .ok (.iload_n 1, 1) := by decide +kernel
theorem dX5_stationBy_149 : decode cX5_stationBy 149 = .ok (.iadd, 1) := by decide +kernel
theorem dX5_stationBy_150 : decode cX5_stationBy 150 = .ok (.lconst 0, 1) := by decide +kernel
theorem dX5_stationBy_151 : decode cX5_stationBy 151 = .ok (.lastore, 1) := by decide +kernel
theorem dX5_stationBy_152 : decode cX5_stationBy 152 = .ok (.iinc 6 1, 3) := by decide +kernel
theorem dX5_stationBy_155 : decode cX5_stationBy 155 = .ok (.goto (-22), 3) := by decide +kernel
theorem dX5_stationBy_158 : decode cX5_stationBy 158 = .ok (.iconst 0, 1) := by decide +kernel
theorem dX5_stationBy_159 : decode cX5_stationBy 159 = .ok (.ireturn, 1) := by decide +kernel
theorem dX5_goneBy_0 : decode cX5_goneBy 0 = .ok (.iload_n 1, 1) := by decide +kernel
theorem dX5_goneBy_1 : decode cX5_goneBy 1 = .ok (.iconst 1, 1) := by decide +kernel
theorem dX5_goneBy_2 : decode cX5_goneBy 2 = .ok (.bipush 9, 2) := by decide +kernel
theorem dX5_goneBy_4 : decode cX5_goneBy 4 = .ok (.invokestatic 96, 3) := by decide +kernel
theorem dX5_goneBy_7 : decode cX5_goneBy 7 = .ok (.ifCond .ne 5, 3) := by decide +kernel
theorem dX5_goneBy_10 : decode cX5_goneBy 10 = .ok (.iconst 1, 1) := by decide +kernel
theorem dX5_goneBy_11 : decode cX5_goneBy 11 = .ok (.ireturn, 1) := by decide +kernel
theorem dX5_goneBy_12 : decode cX5_goneBy 12 = .ok (.aload_n 0, 1) := by decide +kernel
theorem dX5_goneBy_13 : decode cX5_goneBy 13 = .ok (.iload_n 1, 1) := by decide +kernel
theorem dX5_goneBy_14 : decode cX5_goneBy 14 = .ok (.invokevirtual 180, 3) := by decide +kernel
theorem dX5_goneBy_17 : decode cX5_goneBy 17 = .ok (.ifCond .ne 6, 3) := by decide +kernel
theorem dX5_goneBy_20 : decode cX5_goneBy 20 = .ok (.bipush 6, 2) := by decide +kernel
theorem dX5_goneBy_22 : decode cX5_goneBy 22 = .ok (.ireturn, 1) := by decide +kernel
theorem dX5_goneBy_23 : decode cX5_goneBy 23 = .ok (.aload_n 0, 1) := by decide +kernel
theorem dX5_goneBy_24 : decode cX5_goneBy 24 = .ok (.getfield 9, 3) := by decide +kernel
theorem dX5_goneBy_27 : decode cX5_goneBy 27 = .ok (.bipush 48, 2) := by decide +kernel
theorem dX5_goneBy_29 : decode cX5_goneBy 29 = .ok (.bipush 6, 2) := by decide +kernel
theorem dX5_goneBy_31 : decode cX5_goneBy 31 = .ok (.iload_n 1, 1) := by decide +kernel
theorem dX5_goneBy_32 : decode cX5_goneBy 32 = .ok (.imul, 1) := by decide +kernel
theorem dX5_goneBy_33 : decode cX5_goneBy 33 = .ok (.iadd, 1) := by decide +kernel
theorem dX5_goneBy_34 : decode cX5_goneBy 34 = .ok (.iconst 0, 1) := by decide +kernel
theorem dX5_goneBy_35 : decode cX5_goneBy 35 = .ok (.iastore, 1) := by decide +kernel
theorem dX5_goneBy_36 : decode cX5_goneBy 36 = .ok (.iconst 0, 1) := by decide +kernel
theorem dX5_goneBy_37 : decode cX5_goneBy 37 = .ok (.ireturn, 1) := by decide +kernel
theorem dX5_settingBy_0 : decode cX5_settingBy 0 = .ok (.iload_n 1, 1) := by decide +kernel
theorem dX5_settingBy_1 : decode cX5_settingBy 1 = .ok (.iconst 0, 1) := by decide +kernel
theorem dX5_settingBy_2 : decode cX5_settingBy 2 = .ok (.bipush 6, 2) := by decide +kernel
theorem dX5_settingBy_4 : decode cX5_settingBy 4 = .ok (.invokestatic 96, 3) := by decide +kernel
theorem dX5_settingBy_7 : decode cX5_settingBy 7 = .ok (.ifCond .ne 5, 3) := by decide +kernel
theorem dX5_settingBy_10 : decode cX5_settingBy 10 = .ok (.iconst 1, 1) := by decide +kernel
theorem dX5_settingBy_11 : decode cX5_settingBy 11 = .ok (.ireturn, 1) := by decide +kernel
theorem dX5_settingBy_12 : decode cX5_settingBy 12 = .ok (.iload_n 1, 1) := by decide +kernel
theorem dX5_settingBy_13 : decode cX5_settingBy 13 = .ok (.iload_n 2, 1) := by decide +kernel
theorem dX5_settingBy_14 : decode cX5_settingBy 14 = .ok (.invokestatic 232, 3) := by decide +kernel
theorem dX5_settingBy_17 : decode cX5_settingBy 17 = .ok (.ifCond .ne 5, 3) := by decide +kernel
theorem dX5_settingBy_20 : decode cX5_settingBy 20 = .ok (.iconst 2, 1) := by decide +kernel
theorem dX5_settingBy_21 : decode cX5_settingBy 21 = .ok (.ireturn, 1) := by decide +kernel
theorem dX5_settingBy_22 : decode cX5_settingBy 22 = .ok (.aload_n 0, 1) := by decide +kernel
theorem dX5_settingBy_23 : decode cX5_settingBy 23 = .ok (.getfield 9, 3) := by decide +kernel
theorem dX5_settingBy_26 : decode cX5_settingBy 26 = .ok (.iload_n 1, 1) := by decide +kernel
theorem dX5_settingBy_27 : decode cX5_settingBy 27 = .ok (.iload_n 2, 1) := by decide +kernel
theorem dX5_settingBy_28 : decode cX5_settingBy 28 = .ok (.iastore, 1) := by decide +kernel
theorem dX5_settingBy_29 : decode cX5_settingBy 29 = .ok (.iconst 0, 1) := by decide +kernel
theorem dX5_settingBy_30 : decode cX5_settingBy 30 = .ok (.ireturn, 1) := by decide +kernel
theorem dX5_hoursBy_0 : decode cX5_hoursBy 0 = .ok (.iload_n 1, 1) := by decide +kernel
theorem dX5_hoursBy_1 : decode cX5_hoursBy 1 = .ok (.iconst 1, 1) := by decide +kernel
theorem dX5_hoursBy_2 : decode cX5_hoursBy 2 = .ok (.bipush 24, 2) := by decide +kernel
theorem dX5_hoursBy_4 : decode cX5_hoursBy 4 = .ok (.invokestatic 96, 3) := by decide +kernel
theorem dX5_hoursBy_7 : decode cX5_hoursBy 7 = .ok (.ifCond .ne 5, 3) := by decide +kernel
theorem dX5_hoursBy_10 : decode cX5_hoursBy 10 = .ok (.iconst 2, 1) := by decide +kernel
theorem dX5_hoursBy_11 : decode cX5_hoursBy 11 = .ok (.ireturn, 1) := by decide +kernel
theorem dX5_hoursBy_12 : decode cX5_hoursBy 12 = .ok (.aload_n 0, 1) := by decide +kernel
theorem dX5_hoursBy_13 : decode cX5_hoursBy 13 = .ok (.invokevirtual 236, 3) := by decide +kernel
theorem dX5_hoursBy_16 : decode cX5_hoursBy 16 = .ok (.aload_n 0, 1) := by decide +kernel
theorem dX5_hoursBy_17 : decode cX5_hoursBy 17 = .ok (.invokevirtual 239, 3) := by decide +kernel
theorem dX5_hoursBy_20 : decode cX5_hoursBy 20 = .ok (.aload_n 0, 1) := by decide +kernel
theorem dX5_hoursBy_21 : decode cX5_hoursBy 21 = .ok (.getfield 9, 3) := by decide +kernel
theorem dX5_hoursBy_24 : decode cX5_hoursBy 24 = .ok (.iconst 4, 1) := by decide +kernel
theorem dX5_hoursBy_25 : decode cX5_hoursBy 25 = .ok (.iaload, 1) := by decide +kernel
theorem dX5_hoursBy_26 : decode cX5_hoursBy 26 = .ok (.i2l, 1) := by decide +kernel
theorem dX5_hoursBy_27 : decode cX5_hoursBy 27 = .ok (.lcmp, 1) := by decide +kernel
theorem dX5_hoursBy_28 : decode cX5_hoursBy 28 = .ok (.ifCond .le 6, 3) := by decide +kernel
theorem dX5_hoursBy_31 : decode cX5_hoursBy 31 = .ok (.bipush 7, 2) := by decide +kernel
theorem dX5_hoursBy_33 : decode cX5_hoursBy 33 = .ok (.ireturn, 1) := by decide +kernel
theorem dX5_hoursBy_34 : decode cX5_hoursBy 34 = .ok (.iconst 0, 1) := by decide +kernel
theorem dX5_hoursBy_35 : decode cX5_hoursBy 35 = .ok (.istore_n 2, 1) := by decide +kernel
theorem dX5_hoursBy_36 : decode cX5_hoursBy 36 = .ok (.iload_n 2, 1) := by decide +kernel
theorem dX5_hoursBy_37 : decode cX5_hoursBy 37 = .ok (.iload_n 1, 1) := by decide +kernel
theorem dX5_hoursBy_38 : decode cX5_hoursBy 38 = .ok (.if_icmp .ge 138, 3) := by decide +kernel
theorem dX5_hoursBy_41 : decode cX5_hoursBy 41 = .ok (.aload_n 0, 1) := by decide +kernel
theorem dX5_hoursBy_42 : decode cX5_hoursBy 42 = .ok (.getfield 13, 3) := by decide +kernel
theorem dX5_hoursBy_45 : decode cX5_hoursBy 45 = .ok (.bipush 30, 2) := by decide +kernel
theorem dX5_hoursBy_47 : decode cX5_hoursBy 47 = .ok (.dup2, 1) := by decide +kernel
theorem dX5_hoursBy_48 : decode cX5_hoursBy 48 = .ok (.laload, 1) := by decide +kernel
theorem dX5_hoursBy_49 : decode cX5_hoursBy 49 = .ok (.lconst 1, 1) := by decide +kernel
theorem dX5_hoursBy_50 : decode cX5_hoursBy 50 = .ok (.ladd, 1) := by decide +kernel
theorem dX5_hoursBy_51 : decode cX5_hoursBy 51 = .ok (.lastore, 1) := by decide +kernel
theorem dX5_hoursBy_52 : decode cX5_hoursBy 52 = .ok (.aload_n 0, 1) := by decide +kernel
theorem dX5_hoursBy_53 : decode cX5_hoursBy 53 = .ok (.getfield 13, 3) := by decide +kernel
theorem dX5_hoursBy_56 : decode cX5_hoursBy 56 = .ok (.bipush 31, 2) := by decide +kernel
theorem dX5_hoursBy_58 : decode cX5_hoursBy 58 = .ok (.dup2, 1) := by decide +kernel
theorem dX5_hoursBy_59 : decode cX5_hoursBy 59 = .ok (.laload, 1) := by decide +kernel
theorem dX5_hoursBy_60 : decode cX5_hoursBy 60 = .ok (.aload_n 0, 1) := by decide +kernel
theorem dX5_hoursBy_61 : decode cX5_hoursBy 61 = .ok (.invokevirtual 243, 3) := by decide +kernel
theorem dX5_hoursBy_64 : decode cX5_hoursBy 64 = .ok (.ladd, 1) := by decide +kernel
theorem dX5_hoursBy_65 : decode cX5_hoursBy 65 = .ok (.lastore, 1) := by decide +kernel
theorem dX5_hoursBy_66 : decode cX5_hoursBy 66 = .ok (.aload_n 0, 1) := by decide +kernel
theorem dX5_hoursBy_67 : decode cX5_hoursBy 67 = .ok (.getfield 13, 3) := by decide +kernel
theorem dX5_hoursBy_70 : decode cX5_hoursBy 70 = .ok (.bipush 32, 2) := by decide +kernel
theorem dX5_hoursBy_72 : decode cX5_hoursBy 72 = .ok (.dup2, 1) := by decide +kernel
theorem dX5_hoursBy_73 : decode cX5_hoursBy 73 = .ok (.laload, 1) := by decide +kernel
theorem dX5_hoursBy_74 : decode cX5_hoursBy 74 = .ok (.aload_n 0, 1) := by decide +kernel
theorem dX5_hoursBy_75 : decode cX5_hoursBy 75 = .ok (.invokevirtual 246, 3) := by decide +kernel
theorem dX5_hoursBy_78 : decode cX5_hoursBy 78 = .ok (.ladd, 1) := by decide +kernel
theorem dX5_hoursBy_79 : decode cX5_hoursBy 79 = .ok (.lastore, 1) := by decide +kernel
theorem dX5_hoursBy_80 : decode cX5_hoursBy 80 = .ok (.iconst 1, 1) := by decide +kernel
theorem dX5_hoursBy_81 : decode cX5_hoursBy 81 = .ok (.istore_n 3, 1) := by decide +kernel
theorem dX5_hoursBy_82 : decode cX5_hoursBy 82 = .ok (.iload_n 3, 1) := by decide +kernel
theorem dX5_hoursBy_83 : decode cX5_hoursBy 83 = .ok (.bipush 10, 2) := by decide +kernel
theorem dX5_hoursBy_85 : decode cX5_hoursBy 85 = .ok (.if_icmp .ge 85, 3) := by decide +kernel
theorem dX5_hoursBy_88 : decode cX5_hoursBy 88 = .ok (.aload_n 0, 1) := by decide +kernel
theorem dX5_hoursBy_89 : decode cX5_hoursBy 89 = .ok (.iload_n 3, 1) := by decide +kernel
theorem dX5_hoursBy_90 : decode cX5_hoursBy 90 = .ok (.invokevirtual 180, 3) := by decide +kernel
theorem dX5_hoursBy_93 : decode cX5_hoursBy 93 = .ok (.ifCond .ne 6, 3) := by decide +kernel
theorem dX5_hoursBy_96 : decode cX5_hoursBy 96 = .ok (.goto 68, 3) := by decide +kernel
theorem dX5_hoursBy_99 : decode cX5_hoursBy 99 = .ok (.aload_n 0, 1) := by decide +kernel
theorem dX5_hoursBy_100 : decode cX5_hoursBy 100 = .ok (.getfield 13, 3) := by decide +kernel
theorem dX5_hoursBy_103 : decode cX5_hoursBy 103 = .ok (.iconst 0, 1) := by decide +kernel
theorem dX5_hoursBy_104 : decode cX5_hoursBy 104 = .ok (.iload_n 3, 1) := by decide +kernel
theorem dX5_hoursBy_105 : decode cX5_hoursBy 105 = .ok (.iadd, 1) := by decide +kernel
theorem dX5_hoursBy_106 : decode cX5_hoursBy 106 = .ok (.dup2, 1) := by decide +kernel
theorem dX5_hoursBy_107 : decode cX5_hoursBy 107 = .ok (.laload, 1) := by decide +kernel
theorem dX5_hoursBy_108 : decode cX5_hoursBy 108 = .ok (.aload_n 0, 1) := by decide +kernel
theorem dX5_hoursBy_109 : decode cX5_hoursBy 109 = .ok (.iload_n 3, 1) := by decide +kernel
theorem dX5_hoursBy_110 : decode cX5_hoursBy 110 = .ok (.invokevirtual 219, 3) := by decide +kernel
theorem dX5_hoursBy_113 : decode cX5_hoursBy 113 = .ok (.ladd, 1) := by decide +kernel
theorem dX5_hoursBy_114 : decode cX5_hoursBy 114 = .ok (.lastore, 1) := by decide +kernel
theorem dX5_hoursBy_115 : decode cX5_hoursBy 115 = .ok (.aload_n 0, 1) := by decide +kernel
theorem dX5_hoursBy_116 : decode cX5_hoursBy 116 = .ok (.getfield 13, 3) := by decide +kernel
theorem dX5_hoursBy_119 : decode cX5_hoursBy 119 = .ok (.bipush 10, 2) := by decide +kernel
theorem dX5_hoursBy_121 : decode cX5_hoursBy 121 = .ok (.iload_n 3, 1) := by decide +kernel
theorem dX5_hoursBy_122 : decode cX5_hoursBy 122 = .ok (.iadd, 1) := by decide +kernel
theorem dX5_hoursBy_123 : decode cX5_hoursBy 123 = .ok (.dup2, 1) := by decide +kernel
theorem dX5_hoursBy_124 : decode cX5_hoursBy 124 = .ok (.laload, 1) := by decide +kernel
theorem dX5_hoursBy_125 : decode cX5_hoursBy 125 = .ok (.aload_n 0, 1) := by decide +kernel
theorem dX5_hoursBy_126 : decode cX5_hoursBy 126 = .ok (.iload_n 3, 1) := by decide +kernel
theorem dX5_hoursBy_127 : decode cX5_hoursBy 127 = .ok (.invokevirtual 212, 3) := by decide +kernel
theorem dX5_hoursBy_130 : decode cX5_hoursBy 130 = .ok (.ladd, 1) := by decide +kernel
theorem dX5_hoursBy_131 : decode cX5_hoursBy 131 = .ok (.lastore, 1) := by decide +kernel
theorem dX5_hoursBy_132 : decode cX5_hoursBy 132 = .ok (.aload_n 0, 1) := by decide +kernel
theorem dX5_hoursBy_133 : decode cX5_hoursBy 133 = .ok (.getfield 13, 3) := by decide +kernel
theorem dX5_hoursBy_136 : decode cX5_hoursBy 136 = .ok (.bipush 20, 2) := by decide +kernel
theorem dX5_hoursBy_138 : decode cX5_hoursBy 138 = .ok (.iload_n 3, 1) := by decide +kernel
theorem dX5_hoursBy_139 : decode cX5_hoursBy 139 = .ok (.iadd, 1) := by decide +kernel
theorem dX5_hoursBy_140 : decode cX5_hoursBy 140 = .ok (.dup2, 1) := by decide +kernel
theorem dX5_hoursBy_141 : decode cX5_hoursBy 141 = .ok (.laload, 1) := by decide +kernel
theorem dX5_hoursBy_142 : decode cX5_hoursBy 142 = .ok (.aload_n 0, 1) := by decide +kernel
theorem dX5_hoursBy_143 : decode cX5_hoursBy 143 = .ok (.iload_n 3, 1) := by decide +kernel
theorem dX5_hoursBy_144 : decode cX5_hoursBy 144 = .ok (.invokevirtual 249, 3) := by decide +kernel
theorem dX5_hoursBy_147 : decode cX5_hoursBy 147 = .ok (.ladd, 1) := by decide +kernel
theorem dX5_hoursBy_148 : decode cX5_hoursBy 148 = .ok (.lastore, 1) := by decide +kernel
theorem dX5_hoursBy_149 : decode cX5_hoursBy 149 = .ok (.aload_n 0, 1) := by decide +kernel
theorem dX5_hoursBy_150 : decode cX5_hoursBy 150 = .ok (.getfield 13, 3) := by decide +kernel
theorem dX5_hoursBy_153 : decode cX5_hoursBy 153 = .ok (.bipush 33, 2) := by decide +kernel
theorem dX5_hoursBy_155 : decode cX5_hoursBy 155 = .ok (.dup2, 1) := by decide +kernel
theorem dX5_hoursBy_156 : decode cX5_hoursBy 156 = .ok (.laload, 1) := by decide +kernel
theorem dX5_hoursBy_157 : decode cX5_hoursBy 157 = .ok (.aload_n 0, 1) := by decide +kernel
theorem dX5_hoursBy_158 : decode cX5_hoursBy 158 = .ok (.iload_n 3, 1) := by decide +kernel
theorem dX5_hoursBy_159 : decode cX5_hoursBy 159 = .ok (.invokevirtual 249, 3) := by decide +kernel
theorem dX5_hoursBy_162 : decode cX5_hoursBy 162 = .ok (.ladd, 1) := by decide +kernel
theorem dX5_hoursBy_163 : decode cX5_hoursBy 163 = .ok (.lastore, 1) := by decide +kernel
theorem dX5_hoursBy_164 : decode cX5_hoursBy 164 = .ok (.iinc 3 1, 3) := by decide +kernel
theorem dX5_hoursBy_167 : decode cX5_hoursBy 167 = .ok (.goto (-85), 3) := by decide +kernel
theorem dX5_hoursBy_170 : decode cX5_hoursBy 170 = .ok (.iinc 2 1, 3) := by decide +kernel
theorem dX5_hoursBy_173 : decode cX5_hoursBy 173 = .ok (.goto (-137), 3) := by decide +kernel
theorem dX5_hoursBy_176 : decode cX5_hoursBy 176 = .ok (.iconst 0, 1) := by decide +kernel
theorem dX5_hoursBy_177 : decode cX5_hoursBy 177 = .ok (.ireturn, 1) := by decide +kernel
theorem dX5_setSetting_0 : decode cX5_setSetting 0 = .ok (.aload_n 0, 1) := by decide +kernel
theorem dX5_setSetting_1 : decode cX5_setSetting 1 = .ok (.iconst 0, 1) := by decide +kernel
theorem dX5_setSetting_2 : decode cX5_setSetting 2 = .ok (.putfield 86, 3) := by decide +kernel
theorem dX5_setSetting_5 : decode cX5_setSetting 5 = .ok (.iload_n 1, 1) := by decide +kernel
theorem dX5_setSetting_6 : decode cX5_setSetting 6 = .ok (.iconst 0, 1) := by decide +kernel
theorem dX5_setSetting_7 : decode cX5_setSetting 7 = .ok (.bipush 6, 2) := by decide +kernel
theorem dX5_setSetting_9 : decode cX5_setSetting 9 = .ok (.invokestatic 96, 3) := by decide +kernel
theorem dX5_setSetting_12 : decode cX5_setSetting 12 = .ok (.ifCond .ne 9, 3) := by decide +kernel
theorem dX5_setSetting_15 : decode cX5_setSetting 15 = .ok (.aload_n 0, 1) := by decide +kernel
theorem dX5_setSetting_16 : decode cX5_setSetting 16 = .ok (.iconst 1, 1) := by decide +kernel
theorem dX5_setSetting_17 : decode cX5_setSetting 17 = .ok (.invokevirtual 92, 3) := by decide +kernel
theorem dX5_setSetting_20 : decode cX5_setSetting 20 = .ok (.ireturn, 1) := by decide +kernel
theorem dX5_setSetting_21 : decode cX5_setSetting 21 = .ok (.iload_n 1, 1) := by decide +kernel
theorem dX5_setSetting_22 : decode cX5_setSetting 22 = .ok (.iload_n 2, 1) := by decide +kernel
theorem dX5_setSetting_23 : decode cX5_setSetting 23 = .ok (.invokestatic 232, 3) := by decide +kernel
theorem dX5_setSetting_26 : decode cX5_setSetting 26 = .ok (.ifCond .ne 9, 3) := by decide +kernel
theorem dX5_setSetting_29 : decode cX5_setSetting 29 = .ok (.aload_n 0, 1) := by decide +kernel
theorem dX5_setSetting_30 : decode cX5_setSetting 30 = .ok (.iconst 2, 1) := by decide +kernel
theorem dX5_setSetting_31 : decode cX5_setSetting 31 = .ok (.invokevirtual 92, 3) := by decide +kernel
theorem dX5_setSetting_34 : decode cX5_setSetting 34 = .ok (.ireturn, 1) := by decide +kernel
theorem dX5_setSetting_35 : decode cX5_setSetting 35 = .ok (.aload_n 0, 1) := by decide +kernel
theorem dX5_setSetting_36 : decode cX5_setSetting 36 = .ok (.invokevirtual 252, 3) := by decide +kernel
theorem dX5_setSetting_39 : decode cX5_setSetting 39 = .ok (.aload_n 0, 1) := by decide +kernel
theorem dX5_setSetting_40 : decode cX5_setSetting 40 = .ok (.getfield 9, 3) := by decide +kernel
theorem dX5_setSetting_43 : decode cX5_setSetting 43 = .ok (.iload_n 1, 1) := by decide +kernel
theorem dX5_setSetting_44 : decode cX5_setSetting 44 = .ok (.iaload, 1) := by decide +kernel
theorem dX5_setSetting_45 : decode cX5_setSetting 45 = .ok (.istore_n 3, 1) := by decide +kernel
theorem dX5_setSetting_46 : decode cX5_setSetting 46 = .ok (.aload_n 0, 1) := by decide +kernel
theorem dX5_setSetting_47 : decode cX5_setSetting 47 = .ok (.getfield 9, 3) := by decide +kernel
theorem dX5_setSetting_50 : decode cX5_setSetting 50 = .ok (.iload_n 1, 1) := by decide +kernel
theorem dX5_setSetting_51 : decode cX5_setSetting 51 = .ok (.iload_n 2, 1) := by decide +kernel
theorem dX5_setSetting_52 : decode cX5_setSetting 52 = .ok (.iastore, 1) := by decide +kernel
theorem dX5_setSetting_53 : decode cX5_setSetting 53 = .ok (.iload_n 3, 1) := by decide +kernel
theorem dX5_setSetting_54 : decode cX5_setSetting 54 = .ok (.ireturn, 1) := by decide +kernel
theorem dX5_setting_0 : decode cX5_setting 0 = .ok (.aload_n 0, 1) := by decide +kernel
theorem dX5_setting_1 : decode cX5_setting 1 = .ok (.iconst 0, 1) := by decide +kernel
theorem dX5_setting_2 : decode cX5_setting 2 = .ok (.putfield 86, 3) := by decide +kernel
theorem dX5_setting_5 : decode cX5_setting 5 = .ok (.iload_n 1, 1) := by decide +kernel
theorem dX5_setting_6 : decode cX5_setting 6 = .ok (.iconst 0, 1) := by decide +kernel
theorem dX5_setting_7 : decode cX5_setting 7 = .ok (.bipush 6, 2) := by decide +kernel
theorem dX5_setting_9 : decode cX5_setting 9 = .ok (.invokestatic 96, 3) := by decide +kernel
theorem dX5_setting_12 : decode cX5_setting 12 = .ok (.ifCond .eq 12, 3) := by decide +kernel
theorem dX5_setting_15 : decode cX5_setting 15 = .ok (.aload_n 0, 1) := by decide +kernel
theorem dX5_setting_16 : decode cX5_setting 16 = .ok (.getfield 9, 3) := by decide +kernel
theorem dX5_setting_19 : decode cX5_setting 19 = .ok (.iload_n 1, 1) := by decide +kernel
theorem dX5_setting_20 : decode cX5_setting 20 = .ok (.iaload, 1) := by decide +kernel
theorem dX5_setting_21 : decode cX5_setting 21 = .ok (.goto 8, 3) := by decide +kernel
theorem dX5_setting_24 : decode cX5_setting 24 = .ok (.aload_n 0, 1) := by decide +kernel
theorem dX5_setting_25 : decode cX5_setting 25 = .ok (.iconst 1, 1) := by decide +kernel
theorem dX5_setting_26 : decode cX5_setting 26 = .ok (.invokevirtual 92, 3) := by decide +kernel
theorem dX5_setting_29 : decode cX5_setting 29 = .ok (.ireturn, 1) := by decide +kernel
theorem dX5_tries_0 : decode cX5_tries 0 = .ok (.iconst 0, 1) := by decide +kernel
theorem dX5_tries_1 : decode cX5_tries 1 = .ok (.istore_n 1, 1) := by decide +kernel
theorem dX5_tries_2 : decode cX5_tries 2 = .ok (.iload_n 1, 1) := by decide +kernel
theorem dX5_tries_3 : decode cX5_tries 3 = .ok (.bipush 108, 2) := by decide +kernel
theorem dX5_tries_5 : decode cX5_tries 5 = .ok (.if_icmp .ge 21, 3) := by decide +kernel
theorem dX5_tries_8 : decode cX5_tries 8 = .ok (.aload_n 0, 1) := by decide +kernel
theorem dX5_tries_9 : decode cX5_tries 9 = .ok (.getfield 29, 3) := by decide +kernel
theorem dX5_tries_12 : decode cX5_tries 12 = .ok (.iload_n 1, 1) := by decide +kernel
theorem dX5_tries_13 : decode cX5_tries 13 = .ok (.aload_n 0, 1) := by decide +kernel
theorem dX5_tries_14 : decode cX5_tries 14 = .ok (.getfield 9, 3) := by decide +kernel
theorem dX5_tries_17 : decode cX5_tries 17 = .ok (.iload_n 1, 1) := by decide +kernel
theorem dX5_tries_18 : decode cX5_tries 18 = .ok (.iaload, 1) := by decide +kernel
theorem dX5_tries_19 : decode cX5_tries 19 = .ok (.iastore, 1) := by decide +kernel
theorem dX5_tries_20 : decode cX5_tries 20 = .ok (.iinc 1 1, 3) := by decide +kernel
theorem dX5_tries_23 : decode cX5_tries 23 = .ok (.goto (-21), 3) := by decide +kernel
theorem dX5_tries_26 : decode cX5_tries 26 = .ok (.iconst 0, 1) := by decide +kernel
theorem dX5_tries_27 : decode cX5_tries 27 = .ok (.istore_n 1, 1) := by decide +kernel
theorem dX5_tries_28 : decode cX5_tries 28 = .ok (.iload_n 1, 1) := by decide +kernel
theorem dX5_tries_29 : decode cX5_tries 29 = .ok (.bipush 34, 2) := by decide +kernel
theorem dX5_tries_31 : decode cX5_tries 31 = .ok (.if_icmp .ge 21, 3) := by decide +kernel
theorem dX5_tries_34 : decode cX5_tries 34 = .ok (.aload_n 0, 1) := by decide +kernel
theorem dX5_tries_35 : decode cX5_tries 35 = .ok (.getfield 32, 3) := by decide +kernel
theorem dX5_tries_38 : decode cX5_tries 38 = .ok (.iload_n 1, 1) := by decide +kernel
theorem dX5_tries_39 : decode cX5_tries 39 = .ok (.aload_n 0, 1) := by decide +kernel
theorem dX5_tries_40 : decode cX5_tries 40 = .ok (.getfield 13, 3) := by decide +kernel
theorem dX5_tries_43 : decode cX5_tries 43 = .ok (.iload_n 1, 1) := by decide +kernel
theorem dX5_tries_44 : decode cX5_tries 44 = .ok (.laload, 1) := by decide +kernel
theorem dX5_tries_45 : decode cX5_tries 45 = .ok (.lastore, 1) := by decide +kernel
theorem dX5_tries_46 : decode cX5_tries 46 = .ok (.iinc 1 1, 3) := by decide +kernel
theorem dX5_tries_49 : decode cX5_tries 49 = .ok (.goto (-21), 3) := by decide +kernel
theorem dX5_tries_52 : decode cX5_tries 52 = .ok (.return_, 1) := by decide +kernel
theorem dX5_comesBack_0 : decode cX5_comesBack 0 = .ok (.iconst 0, 1) := by decide +kernel
theorem dX5_comesBack_1 : decode cX5_comesBack 1 = .ok (.istore_n 1, 1) := by decide +kernel
theorem dX5_comesBack_2 : decode cX5_comesBack 2 = .ok (.iload_n 1, 1) := by decide +kernel
theorem dX5_comesBack_3 : decode cX5_comesBack 3 = .ok (.bipush 108, 2) := by decide +kernel
theorem dX5_comesBack_5 : decode cX5_comesBack 5 = .ok (.if_icmp .ge 21, 3) := by decide +kernel
theorem dX5_comesBack_8 : decode cX5_comesBack 8 = .ok (.aload_n 0, 1) := by decide +kernel
theorem dX5_comesBack_9 : decode cX5_comesBack 9 = .ok (.getfield 9, 3) := by decide +kernel
theorem dX5_comesBack_12 : decode cX5_comesBack 12 = .ok (.iload_n 1, 1) := by decide +kernel
theorem dX5_comesBack_13 : decode cX5_comesBack 13 = .ok (.aload_n 0, 1) := by decide +kernel
theorem dX5_comesBack_14 : decode cX5_comesBack 14 = .ok (.getfield 29, 3) := by decide +kernel
theorem dX5_comesBack_17 : decode cX5_comesBack 17 = .ok (.iload_n 1, 1) := by decide +kernel
theorem dX5_comesBack_18 : decode cX5_comesBack 18 = .ok (.iaload, 1) := by decide +kernel
theorem dX5_comesBack_19 : decode cX5_comesBack 19 = .ok (.iastore, 1) := by decide +kernel
theorem dX5_comesBack_20 : decode cX5_comesBack 20 = .ok (.iinc 1 1, 3) := by decide +kernel
theorem dX5_comesBack_23 : decode cX5_comesBack 23 = .ok (.goto (-21), 3) := by decide +kernel
theorem dX5_comesBack_26 : decode cX5_comesBack 26 = .ok (.iconst 0, 1) := by decide +kernel
theorem dX5_comesBack_27 : decode cX5_comesBack 27 = .ok (.istore_n 1, 1) := by decide +kernel
theorem dX5_comesBack_28 : decode cX5_comesBack 28 = .ok (.iload_n 1, 1) := by decide +kernel
theorem dX5_comesBack_29 : decode cX5_comesBack 29 = .ok (.bipush 34, 2) := by decide +kernel
theorem dX5_comesBack_31 : decode cX5_comesBack 31 = .ok (.if_icmp .ge 21, 3) := by decide +kernel
theorem dX5_comesBack_34 : decode cX5_comesBack 34 = .ok (.aload_n 0, 1) := by decide +kernel
theorem dX5_comesBack_35 : decode cX5_comesBack 35 = .ok (.getfield 13, 3) := by decide +kernel
theorem dX5_comesBack_38 : decode cX5_comesBack 38 = .ok (.iload_n 1, 1) := by decide +kernel
theorem dX5_comesBack_39 : decode cX5_comesBack 39 = .ok (.aload_n 0, 1) := by decide +kernel
theorem dX5_comesBack_40 : decode cX5_comesBack 40 = .ok (.getfield 32, 3) := by decide +kernel
theorem dX5_comesBack_43 : decode cX5_comesBack 43 = .ok (.iload_n 1, 1) := by decide +kernel
theorem dX5_comesBack_44 : decode cX5_comesBack 44 = .ok (.laload, 1) := by decide +kernel
theorem dX5_comesBack_45 : decode cX5_comesBack 45 = .ok (.lastore, 1) := by decide +kernel
theorem dX5_comesBack_46 : decode cX5_comesBack 46 = .ok (.iinc 1 1, 3) := by decide +kernel
theorem dX5_comesBack_49 : decode cX5_comesBack 49 = .ok (.goto (-21), 3) := by decide +kernel
theorem dX5_comesBack_52 : decode cX5_comesBack 52 = .ok (.return_, 1) := by decide +kernel
theorem dX5_keeps_0 : decode cX5_keeps 0 = .ok (.aload_n 0, 1) := by decide +kernel
theorem dX5_keeps_1 : decode cX5_keeps 1 = .ok (.getfield 255, 3) := by decide +kernel
theorem dX5_keeps_4 : decode cX5_keeps 4 = .ok (.bipush 8, 2) := by decide +kernel
theorem dX5_keeps_6 : decode cX5_keeps 6 = .ok (.if_icmp .ne 73, 3) := by decide +kernel
theorem dX5_keeps_9 : decode cX5_keeps 9 = .ok (.iconst 0, 1) := by decide +kernel
theorem dX5_keeps_10 : decode cX5_keeps 10 = .ok (.istore_n 1, 1) := by decide +kernel
theorem dX5_keeps_11 : decode cX5_keeps 11 = .ok (.iload_n 1, 1) := by decide +kernel
theorem dX5_keeps_12 : decode cX5_keeps 12 = .ok (.sipush 756, 3) := by decide +kernel
theorem dX5_keeps_15 : decode cX5_keeps 15 = .ok (.if_icmp .ge 24, 3) := by decide +kernel
theorem dX5_keeps_18 : decode cX5_keeps 18 = .ok (.aload_n 0, 1) := by decide +kernel
theorem dX5_keeps_19 : decode cX5_keeps 19 = .ok (.getfield 17, 3) := by decide +kernel
theorem dX5_keeps_22 : decode cX5_keeps 22 = .ok (.iload_n 1, 1) := by decide +kernel
theorem dX5_keeps_23 : decode cX5_keeps 23 = .ok (.aload_n 0, 1) := by decide +kernel
theorem dX5_keeps_24 : decode cX5_keeps 24 = .ok (.getfield 17, 3) := by decide +kernel
theorem dX5_keeps_27 : decode cX5_keeps 27 = .ok (.bipush 108, 2) := by decide +kernel
theorem dX5_keeps_29 : decode cX5_keeps 29 = .ok (.iload_n 1, 1) := by decide +kernel
theorem dX5_keeps_30 : decode cX5_keeps 30 = .ok (.iadd, 1) := by decide +kernel
theorem dX5_keeps_31 : decode cX5_keeps 31 = .ok (.iaload, 1) := by decide +kernel
theorem dX5_keeps_32 : decode cX5_keeps 32 = .ok (.iastore, 1) := by decide +kernel
theorem dX5_keeps_33 : decode cX5_keeps 33 = .ok (.iinc 1 1, 3) := by decide +kernel
theorem dX5_keeps_36 : decode cX5_keeps 36 = .ok (.goto (-25), 3) := by decide +kernel
theorem dX5_keeps_39 : decode cX5_keeps 39 = .ok (.iconst 0, 1) := by decide +kernel
theorem dX5_keeps_40 : decode cX5_keeps 40 = .ok (.istore_n 1, 1) := by decide +kernel
theorem dX5_keeps_41 : decode cX5_keeps 41 = .ok (.iload_n 1, 1) := by decide +kernel
theorem dX5_keeps_42 : decode cX5_keeps 42 = .ok (.sipush 238, 3) := by decide +kernel
theorem dX5_keeps_45 : decode cX5_keeps 45 = .ok (.if_icmp .ge 24, 3) := by decide +kernel
theorem dX5_keeps_48 : decode cX5_keeps 48 = .ok (.aload_n 0, 1) := by decide +kernel
theorem dX5_keeps_49 : decode cX5_keeps 49 = .ok (.getfield 20, 3) := by decide +kernel
theorem dX5_keeps_52 : decode cX5_keeps 52 = .ok (.iload_n 1, 1) := by decide +kernel
theorem dX5_keeps_53 : decode cX5_keeps 53 = .ok (.aload_n 0, 1) := by decide +kernel
theorem dX5_keeps_54 : decode cX5_keeps 54 = .ok (.getfield 20, 3) := by decide +kernel
theorem dX5_keeps_57 : decode cX5_keeps 57 = .ok (.bipush 34, 2) := by decide +kernel
theorem dX5_keeps_59 : decode cX5_keeps 59 = .ok (.iload_n 1, 1) := by decide +kernel
theorem dX5_keeps_60 : decode cX5_keeps 60 = .ok (.iadd, 1) := by decide +kernel
theorem dX5_keeps_61 : decode cX5_keeps 61 = .ok (.laload, 1) := by decide +kernel
theorem dX5_keeps_62 : decode cX5_keeps 62 = .ok (.lastore, 1) := by decide +kernel
theorem dX5_keeps_63 : decode cX5_keeps 63 = .ok (.iinc 1 1, 3) := by decide +kernel
theorem dX5_keeps_66 : decode cX5_keeps 66 = .ok (.goto (-25), 3) := by decide +kernel
theorem dX5_keeps_69 : decode cX5_keeps 69 = .ok (.aload_n 0, 1) := by decide +kernel
theorem dX5_keeps_70 : decode cX5_keeps 70 = .ok (.dup, 1) := by decide +kernel
theorem dX5_keeps_71 : decode cX5_keeps 71 = .ok (.getfield 255, 3) := by decide +kernel
theorem dX5_keeps_74 : decode cX5_keeps 74 = .ok (.iconst 1, 1) := by decide +kernel
theorem dX5_keeps_75 : decode cX5_keeps 75 = .ok (.isub, 1) := by decide +kernel
theorem dX5_keeps_76 : decode cX5_keeps 76 = .ok (.putfield 255, 3) := by decide +kernel
theorem dX5_keeps_79 : decode cX5_keeps 79 = .ok (.iconst 0, 1) := by decide +kernel
theorem dX5_keeps_80 : decode cX5_keeps 80 = .ok (.istore_n 1, 1) := by decide +kernel
theorem dX5_keeps_81 : decode cX5_keeps 81 = .ok (.iload_n 1, 1) := by decide +kernel
theorem dX5_keeps_82 : decode cX5_keeps 82 = .ok (.bipush 108, 2) := by decide +kernel
theorem dX5_keeps_84 : decode cX5_keeps 84 = .ok (.if_icmp .ge 29, 3) := by decide +kernel
theorem dX5_keeps_87 : decode cX5_keeps 87 = .ok (.aload_n 0, 1) := by decide +kernel
theorem dX5_keeps_88 : decode cX5_keeps 88 = .ok (.getfield 17, 3) := by decide +kernel
theorem dX5_keeps_91 : decode cX5_keeps 91 = .ok (.bipush 108, 2) := by decide +kernel
theorem dX5_keeps_93 : decode cX5_keeps 93 = .ok (.aload_n 0, 1) := by decide +kernel
theorem dX5_keeps_94 : decode cX5_keeps 94 = .ok (.getfield 255, 3) := by decide +kernel
theorem dX5_keeps_97 : decode cX5_keeps 97 = .ok (.imul, 1) := by decide +kernel
theorem dX5_keeps_98 : decode cX5_keeps 98 = .ok (.iload_n 1, 1) := by decide +kernel
theorem dX5_keeps_99 : decode cX5_keeps 99 = .ok (.iadd, 1) := by decide +kernel
theorem dX5_keeps_100 : decode cX5_keeps 100 = .ok (.aload_n 0, 1) := by decide +kernel
theorem dX5_keeps_101 : decode cX5_keeps 101 = .ok (.getfield 29, 3) := by decide +kernel
theorem dX5_keeps_104 : decode cX5_keeps 104 = .ok (.iload_n 1, 1) := by decide +kernel
theorem dX5_keeps_105 : decode cX5_keeps 105 = .ok (.iaload, 1) := by decide +kernel
theorem dX5_keeps_106 : decode cX5_keeps 106 = .ok (.iastore, 1) := by decide +kernel
theorem dX5_keeps_107 : decode cX5_keeps 107 = .ok (.iinc 1 1, 3) := by decide +kernel
theorem dX5_keeps_110 : decode cX5_keeps 110 = .ok (.goto (-29), 3) := by decide +kernel
theorem dX5_keeps_113 : decode cX5_keeps 113 = .ok (.iconst 0, 1) := by decide +kernel
theorem dX5_keeps_114 : decode cX5_keeps 114 = .ok (.istore_n 1, 1) := by decide +kernel
theorem dX5_keeps_115 : decode cX5_keeps 115 = .ok (.iload_n 1, 1) := by decide +kernel
theorem dX5_keeps_116 : decode cX5_keeps 116 = .ok (.bipush 34, 2) := by decide +kernel
theorem dX5_keeps_118 : decode cX5_keeps 118 = .ok (.if_icmp .ge 29, 3) := by decide +kernel
theorem dX5_keeps_121 : decode cX5_keeps 121 = .ok (.aload_n 0, 1) := by decide +kernel
theorem dX5_keeps_122 : decode cX5_keeps 122 = .ok (.getfield 20, 3) := by decide +kernel
theorem dX5_keeps_125 : decode cX5_keeps 125 = .ok (.bipush 34, 2) := by decide +kernel
theorem dX5_keeps_127 : decode cX5_keeps 127 = .ok (.aload_n 0, 1) := by decide +kernel
theorem dX5_keeps_128 : decode cX5_keeps 128 = .ok (.getfield 255, 3) := by decide +kernel
theorem dX5_keeps_131 : decode cX5_keeps 131 = .ok (.imul, 1) := by decide +kernel
theorem dX5_keeps_132 : decode cX5_keeps 132 = .ok (.iload_n 1, 1) := by decide +kernel
theorem dX5_keeps_133 : decode cX5_keeps 133 = .ok (.iadd, 1) := by decide +kernel
theorem dX5_keeps_134 : decode cX5_keeps 134 = .ok (.aload_n 0, 1) := by decide +kernel
theorem dX5_keeps_135 : decode cX5_keeps 135 = .ok (.getfield 32, 3) := by decide +kernel
theorem dX5_keeps_138 : decode cX5_keeps 138 = .ok (.iload_n 1, 1) := by decide +kernel
theorem dX5_keeps_139 : decode cX5_keeps 139 = .ok (.laload, 1) := by decide +kernel
theorem dX5_keeps_140 : decode cX5_keeps 140 = .ok (.lastore, 1) := by decide +kernel
theorem dX5_keeps_141 : decode cX5_keeps 141 = .ok (.iinc 1 1, 3) := by decide +kernel
theorem dX5_keeps_144 : decode cX5_keeps 144 = .ok (.goto (-29), 3) := by decide +kernel
theorem dX5_keeps_147 : decode cX5_keeps 147 = .ok (.aload_n 0, 1) := by decide +kernel
theorem dX5_keeps_148 : decode cX5_keeps 148 = .ok (.dup, 1) := by decide +kernel
theorem dX5_keeps_149 : decode cX5_keeps 149 = .ok (.getfield 255, 3) := by decide +kernel
theorem dX5_keeps_152 : decode cX5_keeps 152 = .ok (.iconst 1, 1) := by decide +kernel
theorem dX5_keeps_153 : decode cX5_keeps 153 = .ok (.iadd, 1) := by decide +kernel
theorem dX5_keeps_154 : decode cX5_keeps 154 = .ok (.putfield 255, 3) := by decide +kernel
theorem dX5_keeps_157 : decode cX5_keeps 157 = .ok (.return_, 1) := by decide +kernel
theorem dX5_addPipe_0 : decode cX5_addPipe 0 = .ok (.aload_n 0, 1) := by decide +kernel
theorem dX5_addPipe_1 : decode cX5_addPipe 1 = .ok (.iconst 0, 1) := by decide +kernel
theorem dX5_addPipe_2 : decode cX5_addPipe 2 = .ok (.putfield 86, 3) := by decide +kernel
theorem dX5_addPipe_5 : decode cX5_addPipe 5 = .ok (.aload_n 0, 1) := by decide +kernel
theorem dX5_addPipe_6 : decode cX5_addPipe 6 = .ok (.invokevirtual 100, 3) := by decide +kernel
theorem dX5_addPipe_9 : decode cX5_addPipe 9 = .ok (.aload_n 0, 1) := by decide +kernel
theorem dX5_addPipe_10 : decode cX5_addPipe 10 = .ok (.iload_n 1, 1) := by decide +kernel
theorem dX5_addPipe_11 : decode cX5_addPipe 11 = .ok (.iload_n 2, 1) := by decide +kernel
theorem dX5_addPipe_12 : decode cX5_addPipe 12 = .ok (.iload_n 3, 1) := by decide +kernel
theorem dX5_addPipe_13 : decode cX5_addPipe 13 = .ok (.iload 4, 2) := by decide +kernel
theorem dX5_addPipe_15 : decode cX5_addPipe 15 = .ok (.invokevirtual 258, 3) := by decide +kernel
theorem dX5_addPipe_18 : decode cX5_addPipe 18 = .ok (.istore 5, 2) := by decide +kernel
theorem dX5_addPipe_20 : decode cX5_addPipe 20 = .ok (.iload 5, 2) := by decide +kernel
theorem dX5_addPipe_22 : decode cX5_addPipe 22 = .ok (.ifCond .le 11, 3) := by decide +kernel
theorem dX5_addPipe_25 : decode cX5_addPipe 25 = .ok (.aload_n 0, 1) := by decide +kernel
theorem dX5_addPipe_26 : decode cX5_addPipe 26 = .ok (.iload 5, 2) := by decide +kernel
theorem dX5_addPipe_28 : decode cX5_addPipe 28 = .ok (.iconst 1, 1) := by decide +kernel
theorem dX5_addPipe_29 : decode cX5_addPipe 29 = .ok (.invokevirtual 262, 3) := by decide +kernel
theorem dX5_addPipe_32 : decode cX5_addPipe 32 = .ok (.ireturn, 1) := by decide +kernel
theorem dX5_addPipe_33 : decode cX5_addPipe 33 = .ok (.aload_n 0, 1) := by decide +kernel
theorem dX5_addPipe_34 : decode cX5_addPipe 34 = .ok (.invokevirtual 103, 3) := by decide +kernel
theorem dX5_addPipe_37 : decode cX5_addPipe 37 = .ok (.aload_n 0, 1) := by decide +kernel
theorem dX5_addPipe_38 : decode cX5_addPipe 38 = .ok (.invokevirtual 106, 3) := by decide +kernel
theorem dX5_addPipe_41 : decode cX5_addPipe 41 = .ok (.iconst 1, 1) := by decide +kernel
theorem dX5_addPipe_42 : decode cX5_addPipe 42 = .ok (.isub, 1) := by decide +kernel
theorem dX5_addPipe_43 : decode cX5_addPipe 43 = .ok (.ireturn, 1) := by decide +kernel
theorem dX5_removePipe_0 : decode cX5_removePipe 0 = .ok (.aload_n 0, 1) := by decide +kernel
theorem dX5_removePipe_1 : decode cX5_removePipe 1 = .ok (.iconst 0, 1) := by decide +kernel
theorem dX5_removePipe_2 : decode cX5_removePipe 2 = .ok (.putfield 86, 3) := by decide +kernel
theorem dX5_removePipe_5 : decode cX5_removePipe 5 = .ok (.aload_n 0, 1) := by decide +kernel
theorem dX5_removePipe_6 : decode cX5_removePipe 6 = .ok (.iload_n 1, 1) := by decide +kernel
theorem dX5_removePipe_7 : decode cX5_removePipe 7 = .ok (.invokevirtual 265, 3) := by decide +kernel
theorem dX5_removePipe_10 : decode cX5_removePipe 10 = .ok (.ifCond .ne 9, 3) := by decide +kernel
theorem dX5_removePipe_13 : decode cX5_removePipe 13 = .ok (.aload_n 0, 1) := by decide +kernel
theorem dX5_removePipe_14 : decode cX5_removePipe 14 = .ok (.iconst 1, 1) := by decide +kernel
theorem dX5_removePipe_15 : decode cX5_removePipe 15 = .ok (.invokevirtual 92, 3) := by decide +kernel
theorem dX5_removePipe_18 : decode cX5_removePipe 18 = .ok (.ireturn, 1) := by decide +kernel
theorem dX5_removePipe_19 : decode cX5_removePipe 19 = .ok (.aload_n 0, 1) := by decide +kernel
theorem dX5_removePipe_20 : decode cX5_removePipe 20 = .ok (.invokevirtual 252, 3) := by decide +kernel
theorem dX5_removePipe_23 : decode cX5_removePipe 23 = .ok (.bipush 8, 2) := by decide +kernel
theorem dX5_removePipe_25 : decode cX5_removePipe 25 = .ok (.iconst 4, 1) := by decide +kernel
theorem dX5_removePipe_26 : decode cX5_removePipe 26 = .ok (.iload_n 1, 1) := by decide +kernel
theorem dX5_removePipe_27 : decode cX5_removePipe 27 = .ok (.imul, 1) := by decide +kernel
theorem dX5_removePipe_28 : decode cX5_removePipe 28 = .ok (.iadd, 1) := by decide +kernel
theorem dX5_removePipe_29 : decode cX5_removePipe 29 = .ok (.istore_n 2, 1) := by decide +kernel
theorem dX5_removePipe_30 : decode cX5_removePipe 30 = .ok (.iload_n 2, 1) := by decide +kernel
theorem dX5_removePipe_31 : decode cX5_removePipe 31 = .ok (.bipush 8, 2) := by decide +kernel
theorem dX5_removePipe_33 : decode cX5_removePipe 33 = .ok (.iconst 4, 1) := by decide +kernel
theorem dX5_removePipe_34 : decode cX5_removePipe 34 = .ok (.aload_n 0, 1) := by decide +kernel
theorem dX5_removePipe_35 : decode cX5_removePipe 35 = .ok (.invokevirtual 106, 3) := by decide +kernel
theorem dX5_removePipe_38 : decode cX5_removePipe 38 = .ok (.iconst 1, 1) := by decide +kernel
theorem dX5_removePipe_39 : decode cX5_removePipe 39 = .ok (.isub, 1) := by decide +kernel
theorem dX5_removePipe_40 : decode cX5_removePipe 40 = .ok (.imul, 1) := by decide +kernel
theorem dX5_removePipe_41 : decode cX5_removePipe 41 = .ok (.iadd, 1) := by decide +kernel
theorem dX5_removePipe_42 : decode cX5_removePipe 42 = .ok (.if_icmp .ge 23, 3) := by decide +kernel
theorem dX5_removePipe_45 : decode cX5_removePipe 45 = .ok (.aload_n 0, 1) := by decide +kernel
theorem dX5_removePipe_46 : decode cX5_removePipe 46 = .ok (.getfield 9, 3) := by decide +kernel
theorem dX5_removePipe_49 : decode cX5_removePipe 49 = .ok (.iload_n 2, 1) := by decide +kernel
theorem dX5_removePipe_50 : decode cX5_removePipe 50 = .ok (.aload_n 0, 1) := by decide +kernel
theorem dX5_removePipe_51 : decode cX5_removePipe 51 = .ok (.getfield 9, 3) := by decide +kernel
theorem dX5_removePipe_54 : decode cX5_removePipe 54 = .ok (.iload_n 2, 1) := by decide +kernel
theorem dX5_removePipe_55 : decode cX5_removePipe 55 = .ok (.iconst 4, 1) := by decide +kernel
theorem dX5_removePipe_56 : decode cX5_removePipe 56 = .ok (.iadd, 1) := by decide +kernel
theorem dX5_removePipe_57 : decode cX5_removePipe 57 = .ok (.iaload, 1) := by decide +kernel
theorem dX5_removePipe_58 : decode cX5_removePipe 58 = .ok (.iastore, 1) := by decide +kernel
theorem dX5_removePipe_59 : decode cX5_removePipe 59 = .ok (.iinc 2 1, 3) := by decide +kernel
theorem dX5_removePipe_62 : decode cX5_removePipe 62 = .ok (.goto (-32), 3) := by decide +kernel
theorem dX5_removePipe_65 : decode cX5_removePipe 65 = .ok (.aload_n 0, 1) := by decide +kernel
theorem dX5_removePipe_66 : decode cX5_removePipe 66 = .ok (.getfield 9, 3) := by decide +kernel
theorem dX5_removePipe_69 : decode cX5_removePipe 69 = .ok (.bipush 7, 2) := by decide +kernel
theorem dX5_removePipe_71 : decode cX5_removePipe 71 = .ok (.dup2, 1) := by decide +kernel
theorem dX5_removePipe_72 : decode cX5_removePipe 72 = .ok (.iaload, 1) := by decide +kernel
theorem dX5_removePipe_73 : decode cX5_removePipe 73 = .ok (.iconst 1, 1) := by decide +kernel
theorem dX5_removePipe_74 : decode cX5_removePipe 74 = .ok (.isub, 1) := by decide +kernel
theorem dX5_removePipe_75 : decode cX5_removePipe 75 = .ok (.dup_x2, 1) := by decide +kernel
theorem dX5_removePipe_76 : decode cX5_removePipe 76 = .ok (.iastore, 1) := by decide +kernel
theorem dX5_removePipe_77 : decode cX5_removePipe 77 = .ok (.ireturn, 1) := by decide +kernel
theorem dX5_stations_0 : decode cX5_stations 0 = .ok (.iconst 0, 1) := by decide +kernel
theorem dX5_stations_1 : decode cX5_stations 1 = .ok (.istore_n 1, 1) := by decide +kernel
theorem dX5_stations_2 : decode cX5_stations 2 = .ok (.iconst 1, 1) := by decide +kernel
theorem dX5_stations_3 : decode cX5_stations 3 = .ok (.istore_n 2, 1) := by decide +kernel
theorem dX5_stations_4 : decode cX5_stations 4 = .ok (.iload_n 2, 1) := by decide +kernel
theorem dX5_stations_5 : decode cX5_stations 5 = .ok (.bipush 10, 2) := by decide +kernel
theorem dX5_stations_7 : decode cX5_stations 7 = .ok (.if_icmp .ge 20, 3) := by decide +kernel
theorem dX5_stations_10 : decode cX5_stations 10 = .ok (.aload_n 0, 1) := by decide +kernel
theorem dX5_stations_11 : decode cX5_stations 11 = .ok (.iload_n 2, 1) := by decide +kernel
theorem dX5_stations_12 : decode cX5_stations 12 = .ok (.invokevirtual 180, 3) := by decide +kernel
theorem dX5_stations_15 : decode cX5_stations 15 = .ok (.ifCond .eq 6, 3) := by decide +kernel
theorem dX5_stations_18 : decode cX5_stations 18 = .ok (.iinc 1 1, 3) := by decide +kernel
theorem dX5_stations_21 : decode cX5_stations 21 = .ok (.iinc 2 1, 3) := by decide +kernel
theorem dX5_stations_24 : decode cX5_stations 24 = .ok (.goto (-20), 3) := by decide +kernel
theorem dX5_stations_27 : decode cX5_stations 27 = .ok (.iload_n 1, 1) := by decide +kernel
theorem dX5_stations_28 : decode cX5_stations 28 = .ok (.ireturn, 1) := by decide +kernel
theorem dX5_addStation_0 : decode cX5_addStation 0 = .ok (.aload_n 0, 1) := by decide +kernel
theorem dX5_addStation_1 : decode cX5_addStation 1 = .ok (.iconst 0, 1) := by decide +kernel
theorem dX5_addStation_2 : decode cX5_addStation 2 = .ok (.putfield 86, 3) := by decide +kernel
theorem dX5_addStation_5 : decode cX5_addStation 5 = .ok (.aload_n 0, 1) := by decide +kernel
theorem dX5_addStation_6 : decode cX5_addStation 6 = .ok (.invokevirtual 100, 3) := by decide +kernel
theorem dX5_addStation_9 : decode cX5_addStation 9 = .ok (.aload_n 0, 1) := by decide +kernel
theorem dX5_addStation_10 : decode cX5_addStation 10 = .ok (.iload_n 1, 1) := by decide +kernel
theorem dX5_addStation_11 : decode cX5_addStation 11 = .ok (.iload_n 2, 1) := by decide +kernel
theorem dX5_addStation_12 : decode cX5_addStation 12 = .ok (.iload_n 3, 1) := by decide +kernel
theorem dX5_addStation_13 : decode cX5_addStation 13 = .ok (.iload 4, 2) := by decide +kernel
theorem dX5_addStation_15 : decode cX5_addStation 15 = .ok (.invokevirtual 268, 3) := by decide +kernel
theorem dX5_addStation_18 : decode cX5_addStation 18 = .ok (.istore 5, 2) := by decide +kernel
theorem dX5_addStation_20 : decode cX5_addStation 20 = .ok (.iload 5, 2) := by decide +kernel
theorem dX5_addStation_22 : decode cX5_addStation 22 = .ok (.ifCond .le 11, 3) := by decide +kernel
theorem dX5_addStation_25 : decode cX5_addStation 25 = .ok (.aload_n 0, 1) := by decide +kernel
theorem dX5_addStation_26 : decode cX5_addStation 26 = .ok (.iload 5, 2) := by decide +kernel
theorem dX5_addStation_28 : decode cX5_addStation 28 = .ok (.iconst 1, 1) := by decide +kernel
theorem dX5_addStation_29 : decode cX5_addStation 29 = .ok (.invokevirtual 262, 3) := by decide +kernel
theorem dX5_addStation_32 : decode cX5_addStation 32 = .ok (.ireturn, 1) := by decide +kernel
theorem dX5_addStation_33 : decode cX5_addStation 33 = .ok (.aload_n 0, 1) := by decide +kernel
theorem dX5_addStation_34 : decode cX5_addStation 34 = .ok (.invokevirtual 103, 3) := by decide +kernel
theorem dX5_addStation_37 : decode cX5_addStation 37 = .ok (.aload_n 0, 1) := by decide +kernel
theorem dX5_addStation_38 : decode cX5_addStation 38 = .ok (.invokevirtual 271, 3) := by decide +kernel
theorem dX5_addStation_41 : decode cX5_addStation 41 = .ok (.ireturn, 1) := by decide +kernel
theorem dX5_removeStation_0 : decode cX5_removeStation 0 = .ok (.aload_n 0, 1) := by decide +kernel
theorem dX5_removeStation_1 : decode cX5_removeStation 1 = .ok (.iconst 0, 1) := by decide +kernel
theorem dX5_removeStation_2 : decode cX5_removeStation 2 = .ok (.putfield 86, 3) := by decide +kernel
theorem dX5_removeStation_5 : decode cX5_removeStation 5 = .ok (.aload_n 0, 1) := by decide +kernel
theorem dX5_removeStation_6 : decode cX5_removeStation 6 = .ok (.invokevirtual 100, 3) := by decide +kernel
theorem dX5_removeStation_9 : decode cX5_removeStation 9 = .ok (.aload_n 0, 1) := by decide +kernel
theorem dX5_removeStation_10 : decode cX5_removeStation 10 = .ok (.iload_n 1, 1) := by decide +kernel
theorem dX5_removeStation_11 : decode cX5_removeStation 11 = .ok (.invokevirtual 274, 3) := by decide +kernel
theorem dX5_removeStation_14 : decode cX5_removeStation 14 = .ok (.istore_n 2, 1) := by decide +kernel
theorem dX5_removeStation_15 : decode cX5_removeStation 15 = .ok (.iload_n 2, 1) := by decide +kernel
theorem dX5_removeStation_16 : decode cX5_removeStation 16 = .ok (.ifCond .le 10, 3) := by decide +kernel
theorem dX5_removeStation_19 : decode cX5_removeStation 19 = .ok (.aload_n 0, 1) := by decide +kernel
theorem dX5_removeStation_20 : decode cX5_removeStation 20 = .ok (.iload_n 2, 1) := by decide +kernel
theorem dX5_removeStation_21 : decode cX5_removeStation 21 = .ok (.iconst 1, 1) := by decide +kernel
theorem dX5_removeStation_22 : decode cX5_removeStation 22 = .ok (.invokevirtual 262, 3) := by decide +kernel
theorem dX5_removeStation_25 : decode cX5_removeStation 25 = .ok (.ireturn, 1) := by decide +kernel
theorem dX5_removeStation_26 : decode cX5_removeStation 26 = .ok (.aload_n 0, 1) := by decide +kernel
theorem dX5_removeStation_27 : decode cX5_removeStation 27 = .ok (.invokevirtual 103, 3) := by decide +kernel
theorem dX5_removeStation_30 : decode cX5_removeStation 30 = .ok (.aload_n 0, 1) := by decide +kernel
theorem dX5_removeStation_31 : decode cX5_removeStation 31 = .ok (.invokevirtual 271, 3) := by decide +kernel
theorem dX5_removeStation_34 : decode cX5_removeStation 34 = .ok (.ireturn, 1) := by decide +kernel
theorem dX5_setReturn_0 : decode cX5_setReturn 0 = .ok (.aload_n 0, 1) := by decide +kernel
theorem dX5_setReturn_1 : decode cX5_setReturn 1 = .ok (.iconst 0, 1) := by decide +kernel
theorem dX5_setReturn_2 : decode cX5_setReturn 2 = .ok (.putfield 86, 3) := by decide +kernel
theorem dX5_setReturn_5 : decode cX5_setReturn 5 = .ok (.aload_n 0, 1) := by decide +kernel
theorem dX5_setReturn_6 : decode cX5_setReturn 6 = .ok (.iload_n 1, 1) := by decide +kernel
theorem dX5_setReturn_7 : decode cX5_setReturn 7 = .ok (.invokevirtual 180, 3) := by decide +kernel
theorem dX5_setReturn_10 : decode cX5_setReturn 10 = .ok (.ifCond .ne 9, 3) := by decide +kernel
theorem dX5_setReturn_13 : decode cX5_setReturn 13 = .ok (.aload_n 0, 1) := by decide +kernel
theorem dX5_setReturn_14 : decode cX5_setReturn 14 = .ok (.iconst 1, 1) := by decide +kernel
theorem dX5_setReturn_15 : decode cX5_setReturn 15 = .ok (.invokevirtual 92, 3) := by decide +kernel
theorem dX5_setReturn_18 : decode cX5_setReturn 18 = .ok (.ireturn, 1) := by decide +kernel
theorem dX5_setReturn_19 : decode cX5_setReturn 19 = .ok (.iload_n 2, 1) := by decide +kernel
theorem dX5_setReturn_20 : decode cX5_setReturn 20 = .ok (.sipush 200, 3) := by decide +kernel
theorem dX5_setReturn_23 : decode cX5_setReturn 23 = .ok (.sipush 600, 3) := by decide +kernel
theorem dX5_setReturn_26 : decode cX5_setReturn 26 = .ok (.invokestatic 96, 3) := by decide +kernel
theorem dX5_setReturn_29 : decode cX5_setReturn 29 = .ok (.ifCond .ne 9, 3) := by decide +kernel
theorem dX5_setReturn_32 : decode cX5_setReturn 32 = .ok (.aload_n 0, 1) := by decide +kernel
theorem dX5_setReturn_33 : decode cX5_setReturn 33 = .ok (.iconst 2, 1) := by decide +kernel
theorem dX5_setReturn_34 : decode cX5_setReturn 34 = .ok (.invokevirtual 92, 3) := by decide +kernel
theorem dX5_setReturn_37 : decode cX5_setReturn 37 = .ok (.ireturn, 1) := by decide +kernel
theorem dX5_setReturn_38 : decode cX5_setReturn 38 = .ok (.aload_n 0, 1) := by decide +kernel
theorem dX5_setReturn_39 : decode cX5_setReturn 39 = .ok (.invokevirtual 252, 3) := by decide +kernel
theorem dX5_setReturn_42 : decode cX5_setReturn 42 = .ok (.aload_n 0, 1) := by decide +kernel
theorem dX5_setReturn_43 : decode cX5_setReturn 43 = .ok (.getfield 9, 3) := by decide +kernel
theorem dX5_setReturn_46 : decode cX5_setReturn 46 = .ok (.bipush 48, 2) := by decide +kernel
theorem dX5_setReturn_48 : decode cX5_setReturn 48 = .ok (.bipush 6, 2) := by decide +kernel
theorem dX5_setReturn_50 : decode cX5_setReturn 50 = .ok (.iload_n 1, 1) := by decide +kernel
theorem dX5_setReturn_51 : decode cX5_setReturn 51 = .ok (.imul, 1) := by decide +kernel
theorem dX5_setReturn_52 : decode cX5_setReturn 52 = .ok (.iadd, 1) := by decide +kernel
theorem dX5_setReturn_53 : decode cX5_setReturn 53 = .ok (.iconst 2, 1) := by decide +kernel
theorem dX5_setReturn_54 : decode cX5_setReturn 54 = .ok (.iadd, 1) := by decide +kernel
theorem dX5_setReturn_55 : decode cX5_setReturn 55 = .ok (.iaload, 1) := by decide +kernel
theorem dX5_setReturn_56 : decode cX5_setReturn 56 = .ok (.istore_n 3, 1) := by decide +kernel
theorem dX5_setReturn_57 : decode cX5_setReturn 57 = .ok (.aload_n 0, 1) := by decide +kernel
theorem dX5_setReturn_58 : decode cX5_setReturn 58 = .ok (.getfield 9, 3) := by decide +kernel
theorem dX5_setReturn_61 : decode cX5_setReturn 61 = .ok (.bipush 48, 2) := by decide +kernel
theorem dX5_setReturn_63 : decode cX5_setReturn 63 = .ok (.bipush 6, 2) := by decide +kernel
theorem dX5_setReturn_65 : decode cX5_setReturn 65 = .ok (.iload_n 1, 1) := by decide +kernel
theorem dX5_setReturn_66 : decode cX5_setReturn 66 = .ok (.imul, 1) := by decide +kernel
theorem dX5_setReturn_67 : decode cX5_setReturn 67 = .ok (.iadd, 1) := by decide +kernel
theorem dX5_setReturn_68 : decode cX5_setReturn 68 = .ok (.iconst 2, 1) := by decide +kernel
theorem dX5_setReturn_69 : decode cX5_setReturn 69 = .ok (.iadd, 1) := by decide +kernel
theorem dX5_setReturn_70 : decode cX5_setReturn 70 = .ok (.iload_n 2, 1) := by decide +kernel
theorem dX5_setReturn_71 : decode cX5_setReturn 71 = .ok (.iastore, 1) := by decide +kernel
theorem dX5_setReturn_72 : decode cX5_setReturn 72 = .ok (.iload_n 3, 1) := by decide +kernel
theorem dX5_setReturn_73 : decode cX5_setReturn 73 = .ok (.ireturn, 1) := by decide +kernel
theorem dX5_setMeter_0 : decode cX5_setMeter 0 = .ok (.aload_n 0, 1) := by decide +kernel
theorem dX5_setMeter_1 : decode cX5_setMeter 1 = .ok (.iconst 0, 1) := by decide +kernel
theorem dX5_setMeter_2 : decode cX5_setMeter 2 = .ok (.putfield 86, 3) := by decide +kernel
theorem dX5_setMeter_5 : decode cX5_setMeter 5 = .ok (.aload_n 0, 1) := by decide +kernel
theorem dX5_setMeter_6 : decode cX5_setMeter 6 = .ok (.iload_n 1, 1) := by decide +kernel
theorem dX5_setMeter_7 : decode cX5_setMeter 7 = .ok (.invokevirtual 180, 3) := by decide +kernel
theorem dX5_setMeter_10 : decode cX5_setMeter 10 = .ok (.ifCond .ne 9, 3) := by decide +kernel
theorem dX5_setMeter_13 : decode cX5_setMeter 13 = .ok (.aload_n 0, 1) := by decide +kernel
theorem dX5_setMeter_14 : decode cX5_setMeter 14 = .ok (.iconst 1, 1) := by decide +kernel
theorem dX5_setMeter_15 : decode cX5_setMeter 15 = .ok (.invokevirtual 92, 3) := by decide +kernel
theorem dX5_setMeter_18 : decode cX5_setMeter 18 = .ok (.ireturn, 1) := by decide +kernel
theorem dX5_setMeter_19 : decode cX5_setMeter 19 = .ok (.iload_n 2, 1) := by decide +kernel
theorem dX5_setMeter_20 : decode cX5_setMeter 20 = .ok (.iconst 0, 1) := by decide +kernel
theorem dX5_setMeter_21 : decode cX5_setMeter 21 = .ok (.iconst 2, 1) := by decide +kernel
theorem dX5_setMeter_22 : decode cX5_setMeter 22 = .ok (.invokestatic 96, 3) := by decide +kernel
theorem dX5_setMeter_25 : decode cX5_setMeter 25 = .ok (.ifCond .eq 14, 3) := by decide +kernel
theorem dX5_setMeter_28 : decode cX5_setMeter 28 = .ok (.iload_n 3, 1) := by decide +kernel
theorem dX5_setMeter_29 : decode cX5_setMeter 29 = .ok (.iconst 0, 1) := by decide +kernel
theorem dX5_setMeter_30 : decode cX5_setMeter 30 = .ok (.sipush 2000, 3) := by decide +kernel
theorem dX5_setMeter_33 : decode cX5_setMeter 33 = .ok (.invokestatic 96, 3) := by decide +kernel
theorem dX5_setMeter_36 : decode cX5_setMeter 36 = .ok (.ifCond .ne 9, 3) := by decide +kernel
theorem dX5_setMeter_39 : decode cX5_setMeter 39 = .ok (.aload_n 0, 1) := by decide +kernel
theorem dX5_setMeter_40 : decode cX5_setMeter 40 = .ok (.iconst 2, 1) := by decide +kernel
theorem dX5_setMeter_41 : decode cX5_setMeter 41 = .ok (.invokevirtual 92, 3) := by decide +kernel
theorem dX5_setMeter_44 : decode cX5_setMeter 44 = .ok (.ireturn, 1) := by decide +kernel
theorem dX5_setMeter_45 : decode cX5_setMeter 45 = .ok (.aload_n 0, 1) := by decide +kernel
theorem dX5_setMeter_46 : decode cX5_setMeter 46 = .ok (.invokevirtual 252, 3) := by decide +kernel
theorem dX5_setMeter_49 : decode cX5_setMeter 49 = .ok (.aload_n 0, 1) := by decide +kernel
theorem dX5_setMeter_50 : decode cX5_setMeter 50 = .ok (.getfield 9, 3) := by decide +kernel
theorem dX5_setMeter_53 : decode cX5_setMeter 53 = .ok (.bipush 48, 2) := by decide +kernel
theorem dX5_setMeter_55 : decode cX5_setMeter 55 = .ok (.bipush 6, 2) := by decide +kernel
theorem dX5_setMeter_57 : decode cX5_setMeter 57 = .ok (.iload_n 1, 1) := by decide +kernel
theorem dX5_setMeter_58 : decode cX5_setMeter 58 = .ok (.imul, 1) := by decide +kernel
theorem dX5_setMeter_59 : decode cX5_setMeter 59 = .ok (.iadd, 1) := by decide +kernel
theorem dX5_setMeter_60 : decode cX5_setMeter 60 = .ok (.iconst 4, 1) := by decide +kernel
theorem dX5_setMeter_61 : decode cX5_setMeter 61 = .ok (.iadd, 1) := by decide +kernel
theorem dX5_setMeter_62 : decode cX5_setMeter 62 = .ok (.iaload, 1) := by decide +kernel
theorem dX5_setMeter_63 : decode cX5_setMeter 63 = .ok (.istore 4, 2) := by decide +kernel
theorem dX5_setMeter_65 : decode cX5_setMeter 65 = .ok (.aload_n 0, 1) := by decide +kernel
theorem dX5_setMeter_66 : decode cX5_setMeter 66 = .ok (.getfield 9, 3) := by decide +kernel
theorem dX5_setMeter_69 : decode cX5_setMeter 69 = .ok (.bipush 48, 2) := by decide +kernel
theorem dX5_setMeter_71 : decode cX5_setMeter 71 = .ok (.bipush 6, 2) := by decide +kernel
theorem dX5_setMeter_73 : decode cX5_setMeter 73 = .ok (.iload_n 1, 1) := by decide +kernel
theorem dX5_setMeter_74 : decode cX5_setMeter 74 = .ok (.imul, 1) := by decide +kernel
theorem dX5_setMeter_75 : decode cX5_setMeter 75 = .ok (.iadd, 1) := by decide +kernel
theorem dX5_setMeter_76 : decode cX5_setMeter 76 = .ok (.iconst 4, 1) := by decide +kernel
theorem dX5_setMeter_77 : decode cX5_setMeter 77 = .ok (.iadd, 1) := by decide +kernel
theorem dX5_setMeter_78 : decode cX5_setMeter 78 = .ok (.iload_n 2, 1) := by decide +kernel
theorem dX5_setMeter_79 : decode cX5_setMeter 79 = .ok (.iastore, 1) := by decide +kernel
theorem dX5_setMeter_80 : decode cX5_setMeter 80 = .ok (.aload_n 0, 1) := by decide +kernel
theorem dX5_setMeter_81 : decode cX5_setMeter 81 = .ok (.getfield 9, 3) := by decide +kernel
theorem dX5_setMeter_84 : decode cX5_setMeter 84 = .ok (.bipush 48, 2) := by decide +kernel
theorem dX5_setMeter_86 : decode cX5_setMeter 86 = .ok (.bipush 6, 2) := by decide +kernel
theorem dX5_setMeter_88 : decode cX5_setMeter 88 = .ok (.iload_n 1, 1) := by decide +kernel
theorem dX5_setMeter_89 : decode cX5_setMeter 89 = .ok (.imul, 1) := by decide +kernel
theorem dX5_setMeter_90 : decode cX5_setMeter 90 = .ok (.iadd, 1) := by decide +kernel
theorem dX5_setMeter_91 : decode cX5_setMeter 91 = .ok (.iconst 5, 1) := by decide +kernel
theorem dX5_setMeter_92 : decode cX5_setMeter 92 = .ok (.iadd, 1) := by decide +kernel
theorem dX5_setMeter_93 : decode cX5_setMeter 93 = .ok (.iload_n 3, 1) := by decide +kernel
theorem dX5_setMeter_94 : decode cX5_setMeter 94 = .ok (.iastore, 1) := by decide +kernel
theorem dX5_setMeter_95 : decode cX5_setMeter 95 = .ok (.iload 4, 2) := by decide +kernel
theorem dX5_setMeter_97 : decode cX5_setMeter 97 = .ok (.ireturn, 1) := by decide +kernel
theorem dX5_hours_0 : decode cX5_hours 0 = .ok (.aload_n 0, 1) := by decide +kernel
theorem dX5_hours_1 : decode cX5_hours 1 = .ok (.iconst 0, 1) := by decide +kernel
theorem dX5_hours_2 : decode cX5_hours 2 = .ok (.putfield 86, 3) := by decide +kernel
theorem dX5_hours_5 : decode cX5_hours 5 = .ok (.iload_n 1, 1) := by decide +kernel
theorem dX5_hours_6 : decode cX5_hours 6 = .ok (.iconst 1, 1) := by decide +kernel
theorem dX5_hours_7 : decode cX5_hours 7 = .ok (.bipush 24, 2) := by decide +kernel
theorem dX5_hours_9 : decode cX5_hours 9 = .ok (.invokestatic 96, 3) := by decide +kernel
theorem dX5_hours_12 : decode cX5_hours 12 = .ok (.ifCond .ne 10, 3) := by decide +kernel
theorem dX5_hours_15 : decode cX5_hours 15 = .ok (.aload_n 0, 1) := by decide +kernel
theorem dX5_hours_16 : decode cX5_hours 16 = .ok (.iconst 1, 1) := by decide +kernel
theorem dX5_hours_17 : decode cX5_hours 17 = .ok (.invokevirtual 92, 3) := by decide +kernel
theorem dX5_hours_20 : decode cX5_hours 20 = .ok (.i2l, 1) := by decide +kernel
theorem dX5_hours_21 : decode cX5_hours 21 = .ok (.lreturn, 1) := by decide +kernel
theorem dX5_hours_22 : decode cX5_hours 22 = .ok (.aload_n 0, 1) := by decide +kernel
theorem dX5_hours_23 : decode cX5_hours 23 = .ok (.invokevirtual 100, 3) := by decide +kernel
theorem dX5_hours_26 : decode cX5_hours 26 = .ok (.aload_n 0, 1) := by decide +kernel
theorem dX5_hours_27 : decode cX5_hours 27 = .ok (.iload_n 1, 1) := by decide +kernel
theorem dX5_hours_28 : decode cX5_hours 28 = .ok (.invokevirtual 277, 3) := by decide +kernel
theorem dX5_hours_31 : decode cX5_hours 31 = .ok (.istore_n 2, 1) := by decide +kernel
theorem dX5_hours_32 : decode cX5_hours 32 = .ok (.iload_n 2, 1) := by decide +kernel
theorem dX5_hours_33 : decode cX5_hours 33 = .ok (.ifCond .le 11, 3) := by decide +kernel
theorem dX5_hours_36 : decode cX5_hours 36 = .ok (.aload_n 0, 1) := by decide +kernel
theorem dX5_hours_37 : decode cX5_hours 37 = .ok (.iload_n 2, 1) := by decide +kernel
theorem dX5_hours_38 : decode cX5_hours 38 = .ok (.iconst 2, 1) := by decide +kernel
theorem dX5_hours_39 : decode cX5_hours 39 = .ok (.invokevirtual 262, 3) := by decide +kernel
theorem dX5_hours_42 : decode cX5_hours 42 = .ok (.i2l, 1) := by decide +kernel
theorem dX5_hours_43 : decode cX5_hours 43 = .ok (.lreturn, 1) := by decide +kernel
theorem dX5_hours_44 : decode cX5_hours 44 = .ok (.aload_n 0, 1) := by decide +kernel
theorem dX5_hours_45 : decode cX5_hours 45 = .ok (.invokevirtual 103, 3) := by decide +kernel
theorem dX5_hours_48 : decode cX5_hours 48 = .ok (.aload_n 0, 1) := by decide +kernel
theorem dX5_hours_49 : decode cX5_hours 49 = .ok (.getfield 13, 3) := by decide +kernel
theorem dX5_hours_52 : decode cX5_hours 52 = .ok (.bipush 30, 2) := by decide +kernel
theorem dX5_hours_54 : decode cX5_hours 54 = .ok (.laload, 1) := by decide +kernel
theorem dX5_hours_55 : decode cX5_hours 55 = .ok (.lreturn, 1) := by decide +kernel
theorem dX5_append_0 : decode cX5_append 0 = .ok (.aload_n 0, 1) := by decide +kernel
theorem dX5_append_1 : decode cX5_append 1 = .ok (.iconst 0, 1) := by decide +kernel
theorem dX5_append_2 : decode cX5_append 2 = .ok (.putfield 86, 3) := by decide +kernel
theorem dX5_append_5 : decode cX5_append 5 = .ok (.iload_n 1, 1) := by decide +kernel
theorem dX5_append_6 : decode cX5_append 6 = .ok (.bipush 32, 2) := by decide +kernel
theorem dX5_append_8 : decode cX5_append 8 = .ok (.bipush 126, 2) := by decide +kernel
theorem dX5_append_10 : decode cX5_append 10 = .ok (.invokestatic 96, 3) := by decide +kernel
theorem dX5_append_13 : decode cX5_append 13 = .ok (.ifCond .ne 9, 3) := by decide +kernel
theorem dX5_append_16 : decode cX5_append 16 = .ok (.aload_n 0, 1) := by decide +kernel
theorem dX5_append_17 : decode cX5_append 17 = .ok (.iconst 1, 1) := by decide +kernel
theorem dX5_append_18 : decode cX5_append 18 = .ok (.invokevirtual 92, 3) := by decide +kernel
theorem dX5_append_21 : decode cX5_append 21 = .ok (.ireturn, 1) := by decide +kernel
theorem dX5_append_22 : decode cX5_append 22 = .ok (.aload_n 0, 1) := by decide +kernel
theorem dX5_append_23 : decode cX5_append 23 = .ok (.getfield 280, 3) := by decide +kernel
theorem dX5_append_26 : decode cX5_append 26 = .ok (.bipush 60, 2) := by decide +kernel
theorem dX5_append_28 : decode cX5_append 28 = .ok (.if_icmp .ne 9, 3) := by decide +kernel
theorem dX5_append_31 : decode cX5_append 31 = .ok (.aload_n 0, 1) := by decide +kernel
theorem dX5_append_32 : decode cX5_append 32 = .ok (.iconst 2, 1) := by decide +kernel
theorem dX5_append_33 : decode cX5_append 33 = .ok (.invokevirtual 92, 3) := by decide +kernel
theorem dX5_append_36 : decode cX5_append 36 = .ok (.ireturn, 1) := by decide +kernel
theorem dX5_append_37 : decode cX5_append 37 = .ok (.aload_n 0, 1) := by decide +kernel
theorem dX5_append_38 : decode cX5_append 38 = .ok (.getfield 35, 3) := by decide +kernel
theorem dX5_append_41 : decode cX5_append 41 = .ok (.aload_n 0, 1) := by decide +kernel
theorem dX5_append_42 : decode cX5_append 42 = .ok (.dup, 1) := by decide +kernel
theorem dX5_append_43 : decode cX5_append 43 = .ok (.getfield 280, 3) := by decide +kernel
theorem dX5_append_46 : decode cX5_append 46 = .ok (.dup_x1, 1) := by decide +kernel
theorem dX5_append_47 : decode cX5_append 47 = .ok (.iconst 1, 1) := by decide +kernel
theorem dX5_append_48 : decode cX5_append 48 = .ok (.iadd, 1) := by decide +kernel
theorem dX5_append_49 : decode cX5_append 49 = .ok (.putfield 280, 3) := by decide +kernel
theorem dX5_append_52 : decode cX5_append 52 = .ok (.iload_n 1, 1) := by decide +kernel
theorem dX5_append_53 : decode cX5_append 53 = .ok (.iastore, 1) := by decide +kernel
theorem dX5_append_54 : decode cX5_append 54 = .ok (.aload_n 0, 1) := by decide +kernel
theorem dX5_append_55 : decode cX5_append 55 = .ok (.getfield 280, 3) := by decide +kernel
theorem dX5_append_58 : decode cX5_append 58 = .ok (.ireturn, 1) := by decide +kernel
theorem dX5_here_0 : decode cX5_here 0 = .ok (.aload_n 0, 1) := by decide +kernel
theorem dX5_here_1 : decode cX5_here 1 = .ok (.getfield 283, 3) := by decide +kernel
theorem dX5_here_4 : decode cX5_here 4 = .ok (.aload_n 0, 1) := by decide +kernel
theorem dX5_here_5 : decode cX5_here 5 = .ok (.getfield 280, 3) := by decide +kernel
theorem dX5_here_8 : decode cX5_here 8 = .ok (.if_icmp .ge 15, 3) := by decide +kernel
theorem dX5_here_11 : decode cX5_here 11 = .ok (.aload_n 0, 1) := by decide +kernel
theorem dX5_here_12 : decode cX5_here 12 = .ok (.getfield 35, 3) := by decide +kernel
theorem dX5_here_15 : decode cX5_here 15 = .ok (.aload_n 0, 1) := by decide +kernel
theorem dX5_here_16 : decode cX5_here 16 = .ok (.getfield 283, 3) := by decide +kernel
theorem dX5_here_19 : decode cX5_here 19 = .ok (.iaload, 1) := by decide +kernel
theorem dX5_here_20 : decode cX5_here 20 = .ok (.goto 4, 3) := by decide +kernel
theorem dX5_here_23 : decode cX5_here 23 = .ok (.iconst 0, 1) := by decide +kernel
theorem dX5_here_24 : decode cX5_here 24 = .ok (.ireturn, 1) := by decide +kernel
theorem dX5_takes_0 : decode cX5_takes 0 = .ok (.aload_n 0, 1) := by decide +kernel
theorem dX5_takes_1 : decode cX5_takes 1 = .ok (.invokevirtual 286, 3) := by decide +kernel
theorem dX5_takes_4 : decode cX5_takes 4 = .ok (.iload_n 1, 1) := by decide +kernel
theorem dX5_takes_5 : decode cX5_takes 5 = .ok (.if_icmp .eq 5, 3) := by decide +kernel
theorem dX5_takes_8 : decode cX5_takes 8 = .ok (.iconst 0, 1) := by decide +kernel
theorem dX5_takes_9 : decode cX5_takes 9 = .ok (.ireturn, 1) := by decide +kernel
theorem dX5_takes_10 : decode cX5_takes 10 = .ok (.aload_n 0, 1) := by decide +kernel
theorem dX5_takes_11 : decode cX5_takes 11 = .ok (.dup, 1) := by decide +kernel
theorem dX5_takes_12 : decode cX5_takes 12 = .ok (.getfield 283, 3) := by decide +kernel
theorem dX5_takes_15 : decode cX5_takes 15 = .ok (.iconst 1, 1) := by decide +kernel
theorem dX5_takes_16 : decode cX5_takes 16 = .ok (.iadd, 1) := by decide +kernel
theorem dX5_takes_17 : decode cX5_takes 17 = .ok (.putfield 283, 3) := by decide +kernel
theorem dX5_takes_20 : decode cX5_takes 20 = .ok (.iconst 1, 1) := by decide +kernel
theorem dX5_takes_21 : decode cX5_takes 21 = .ok (.ireturn, 1) := by decide +kernel
theorem dX5_digit_0 : decode cX5_digit 0 = .ok (.aload_n 0, 1) := by decide +kernel
theorem dX5_digit_1 : decode cX5_digit 1 = .ok (.invokevirtual 286, 3) := by decide +kernel
theorem dX5_digit_4 : decode cX5_digit 4 = .ok (.bipush 48, 2) := by decide +kernel
theorem dX5_digit_6 : decode cX5_digit 6 = .ok (.bipush 57, 2) := by decide +kernel
theorem dX5_digit_8 : decode cX5_digit 8 = .ok (.invokestatic 96, 3) := by decide +kernel
theorem dX5_digit_11 : decode cX5_digit 11 = .ok (.ifCond .eq 25, 3) := by decide +kernel
theorem dX5_digit_14 : decode cX5_digit 14 = .ok (.aload_n 0, 1) := by decide +kernel
theorem dX5_digit_15 : decode cX5_digit 15 = .ok (.getfield 35, 3) := by decide +kernel
theorem dX5_digit_18 : decode cX5_digit 18 = .ok (.aload_n 0, 1) := by decide +kernel
theorem dX5_digit_19 : decode cX5_digit 19 = .ok (.dup, 1) := by decide +kernel
theorem dX5_digit_20 : decode cX5_digit 20 = .ok (.getfield 283, 3) := by decide +kernel
theorem dX5_digit_23 : decode cX5_digit 23 = .ok (.dup_x1, 1) := by decide +kernel
theorem dX5_digit_24 : decode cX5_digit 24 = .ok (.iconst 1, 1) := by decide +kernel
theorem dX5_digit_25 : decode cX5_digit 25 = .ok (.iadd, 1) := by decide +kernel
theorem dX5_digit_26 : decode cX5_digit 26 = .ok (.putfield 283, 3) := by decide +kernel
theorem dX5_digit_29 : decode cX5_digit 29 = .ok (.iaload, 1) := by decide +kernel
theorem dX5_digit_30 : decode cX5_digit 30 = .ok (.bipush 48, 2) := by decide +kernel
theorem dX5_digit_32 : decode cX5_digit 32 = .ok (.isub, 1) := by decide +kernel
theorem dX5_digit_33 : decode cX5_digit 33 = .ok (.goto 4, 3) := by decide +kernel
theorem dX5_digit_36 : decode cX5_digit 36 = .ok (.iconst (-1), 1) := by decide +kernel
theorem dX5_digit_37 : decode cX5_digit 37 = .ok (.ireturn, 1) := by decide +kernel
theorem dX5_number_0 : decode cX5_number 0 = .ok (.aload_n 0, 1) := by decide +kernel
theorem dX5_number_1 : decode cX5_number 1 = .ok (.invokevirtual 289, 3) := by decide +kernel
theorem dX5_number_4 : decode cX5_number 4 = .ok (.istore_n 1, 1) := by decide +kernel
theorem dX5_number_5 : decode cX5_number 5 = .ok (.iconst 1, 1) := by decide +kernel
theorem dX5_number_6 : decode cX5_number 6 = .ok (.istore_n 2, 1) := by decide +kernel
theorem dX5_number_7 : decode cX5_number 7 = .ok (.iload_n 1, 1) := by decide +kernel
theorem dX5_number_8 : decode cX5_number 8 = .ok (.ifCond .lt 38, 3) := by decide +kernel
theorem dX5_number_11 : decode cX5_number 11 = .ok (.iload_n 2, 1) := by decide +kernel
theorem dX5_number_12 : decode cX5_number 12 = .ok (.iconst 3, 1) := by decide +kernel
theorem dX5_number_13 : decode cX5_number 13 = .ok (.if_icmp .ge 33, 3) := by decide +kernel
theorem dX5_number_16 : decode cX5_number 16 = .ok (.aload_n 0, 1) := by decide +kernel
theorem dX5_number_17 : decode cX5_number 17 = .ok (.invokevirtual 286, 3) := by decide +kernel
theorem dX5_number_20 : decode cX5_number 20 = .ok (.bipush 48, 2) := by decide +kernel
theorem dX5_number_22 : decode cX5_number 22 = .ok (.bipush 57, 2) := by decide +kernel
theorem dX5_number_24 : decode cX5_number 24 = .ok (.invokestatic 96, 3) := by decide +kernel
theorem dX5_number_27 : decode cX5_number 27 = .ok (.ifCond .eq 19, 3) := by decide +kernel
theorem dX5_number_30 : decode cX5_number 30 = .ok (.bipush 10, 2) := by decide +kernel
theorem dX5_number_32 : decode cX5_number 32 = .ok (.iload_n 1, 1) := by decide +kernel
theorem dX5_number_33 : decode cX5_number 33 = .ok (.imul, 1) := by decide +kernel
theorem dX5_number_34 : decode cX5_number 34 = .ok (.aload_n 0, 1) := by decide +kernel
theorem dX5_number_35 : decode cX5_number 35 = .ok (.invokevirtual 289, 3) := by decide +kernel
theorem dX5_number_38 : decode cX5_number 38 = .ok (.iadd, 1) := by decide +kernel
theorem dX5_number_39 : decode cX5_number 39 = .ok (.istore_n 1, 1) := by decide +kernel
theorem dX5_number_40 : decode cX5_number 40 = .ok (.iinc 2 1, 3) := by decide +kernel
theorem dX5_number_43 : decode cX5_number 43 = .ok (.goto (-36), 3) := by decide +kernel
theorem dX5_number_46 : decode cX5_number 46 = .ok (.iload_n 1, 1) := by decide +kernel
theorem dX5_number_47 : decode cX5_number 47 = .ok (.ireturn, 1) := by decide +kernel
theorem dX5_definition_0 : decode cX5_definition 0 = .ok (.aload_n 0, 1) := by decide +kernel
theorem dX5_definition_1 : decode cX5_definition 1 = .ok (.invokevirtual 286, 3) := by decide +kernel
theorem dX5_definition_4 : decode cX5_definition 4 = .ok (.istore_n 2, 1) := by decide +kernel
theorem dX5_definition_5 : decode cX5_definition 5 = .ok (.iload_n 2, 1) := by decide +kernel
theorem dX5_definition_6 : decode cX5_definition 6 = .ok (.bipush 112, 2) := by decide +kernel
theorem dX5_definition_8 : decode cX5_definition 8 = .ok (.if_icmp .eq 29, 3) := by decide +kernel
theorem dX5_definition_11 : decode cX5_definition 11 = .ok (.iload_n 2, 1) := by decide +kernel
theorem dX5_definition_12 : decode cX5_definition 12 = .ok (.bipush 115, 2) := by decide +kernel
theorem dX5_definition_14 : decode cX5_definition 14 = .ok (.if_icmp .eq 23, 3) := by decide +kernel
theorem dX5_definition_17 : decode cX5_definition 17 = .ok (.iload_n 2, 1) := by decide +kernel
theorem dX5_definition_18 : decode cX5_definition 18 = .ok (.bipush 120, 2) := by decide +kernel
theorem dX5_definition_20 : decode cX5_definition 20 = .ok (.if_icmp .eq 17, 3) := by decide +kernel
theorem dX5_definition_23 : decode cX5_definition 23 = .ok (.iload_n 2, 1) := by decide +kernel
theorem dX5_definition_24 : decode cX5_definition 24 = .ok (.bipush 116, 2) := by decide +kernel
theorem dX5_definition_26 : decode cX5_definition 26 = .ok (.if_icmp .eq 11, 3) := by decide +kernel
theorem dX5_definition_29 : decode cX5_definition 29 = .ok (.iload_n 2, 1) := by decide +kernel
theorem dX5_definition_30 : decode cX5_definition 30 = .ok (.bipush 104, 2) := by decide +kernel
theorem dX5_definition_32 : decode cX5_definition 32 = .ok (.if_icmp .eq 5, 3) := by decide +kernel
theorem dX5_definition_35 : decode cX5_definition 35 = .ok (.iconst (-1), 1) := by decide +kernel
theorem dX5_definition_36 : decode cX5_definition 36 = .ok (.ireturn, 1) := by decide +kernel
theorem dX5_definition_37 : decode cX5_definition 37 = .ok (.aload_n 0, 1) := by decide +kernel
theorem dX5_definition_38 : decode cX5_definition 38 = .ok (.dup, 1) := by decide +kernel
theorem dX5_definition_39 : decode cX5_definition 39 = .ok (.getfield 283, 3) := by decide +kernel
theorem dX5_definition_42 : decode cX5_definition 42 = .ok (.iconst 1, 1) := by decide +kernel
theorem dX5_definition_43 : decode cX5_definition 43 = .ok (.iadd, 1) := by decide +kernel
theorem dX5_definition_44 : decode cX5_definition 44 = .ok (.putfield 283, 3) := by decide +kernel
theorem dX5_definition_47 : decode cX5_definition 47 = .ok (.iload_n 2, 1) := by decide +kernel
theorem dX5_definition_48 : decode cX5_definition 48 = .ok (.bipush 104, 2) := by decide +kernel
theorem dX5_definition_50 : decode cX5_definition 50 = .ok (.if_icmp .ne 10, 3) := by decide +kernel
theorem dX5_definition_53 : decode cX5_definition 53 = .ok (.aload_n 0, 1) := by decide +kernel
theorem dX5_definition_54 : decode cX5_definition 54 = .ok (.invokevirtual 292, 3) := by decide +kernel
theorem dX5_definition_57 : decode cX5_definition 57 = .ok (.goto 7, 3) := by decide +kernel
theorem dX5_definition_60 : decode cX5_definition 60 = .ok (.aload_n 0, 1) := by decide +kernel
theorem dX5_definition_61 : decode cX5_definition 61 = .ok (.invokevirtual 289, 3) := by decide +kernel
theorem dX5_definition_64 : decode cX5_definition 64 = .ok (.istore_n 3, 1) := by decide +kernel
theorem dX5_definition_65 : decode cX5_definition 65 = .ok (.iload_n 3, 1) := by decide +kernel
theorem dX5_definition_66 : decode cX5_definition 66 = .ok (.ifCond .ge 5, 3) := by decide +kernel
theorem dX5_definition_69 : decode cX5_definition 69 = .ok (.iconst (-1), 1) := by decide +kernel
theorem dX5_definition_70 : decode cX5_definition 70 = .ok (.ireturn, 1) := by decide +kernel
theorem dX5_definition_71 : decode cX5_definition 71 = .ok (.iconst 0, 1) := by decide +kernel
theorem dX5_definition_72 : decode cX5_definition 72 = .ok (.istore 4, 2) := by decide +kernel
theorem dX5_definition_74 : decode cX5_definition 74 = .ok (.iconst 0, 1) := by decide +kernel
theorem dX5_definition_75 : decode cX5_definition 75 = .ok (.istore 5, 2) := by decide +kernel
theorem dX5_definition_77 : decode cX5_definition 77 = .ok (.iconst 0, 1) := by decide +kernel
theorem dX5_definition_78 : decode cX5_definition 78 = .ok (.istore 6, 2) := by decide +kernel
theorem dX5_definition_80 : decode cX5_definition 80 = .ok (.iload_n 2, 1) := by decide +kernel
theorem dX5_definition_81 : decode cX5_definition 81 = .ok (.bipush 112, 2) := by decide +kernel
theorem dX5_definition_83 : decode cX5_definition 83 = .ok (.if_icmp .ne 29, 3) := by decide +kernel
theorem dX5_definition_86 : decode cX5_definition 86 = .ok (.aload_n 0, 1) := by decide +kernel
theorem dX5_definition_87 : decode cX5_definition 87 = .ok (.bipush 45, 2) := by decide +kernel
theorem dX5_definition_89 : decode cX5_definition 89 = .ok (.invokevirtual 295, 3) := by decide +kernel
theorem dX5_definition_92 : decode cX5_definition 92 = .ok (.ifCond .eq 10, 3) := by decide +kernel
theorem dX5_definition_95 : decode cX5_definition 95 = .ok (.aload_n 0, 1) := by decide +kernel
theorem dX5_definition_96 : decode cX5_definition 96 = .ok (.invokevirtual 289, 3) := by decide +kernel
theorem dX5_definition_99 : decode cX5_definition 99 = .ok (.goto 4, 3) := by decide +kernel
theorem dX5_definition_102 : decode cX5_definition 102 = .ok (.iconst (-1), 1) := by decide +kernel
theorem dX5_definition_103 : decode cX5_definition 103 = .ok (.istore 4, 2) := by decide +kernel
theorem dX5_definition_105 : decode cX5_definition 105 = .ok (.iload 4, 2) := by decide +kernel
theorem dX5_definition_107 : decode cX5_definition 107 = .ok (.ifCond .ge 5, 3) := by decide +kernel
theorem dX5_definition_110 : decode cX5_definition 110 = .ok (.iconst (-1), 1) := by decide +kernel
theorem dX5_definition_111 : decode cX5_definition 111 = .ok (.ireturn, 1) := by decide +kernel
theorem dX5_definition_112 : decode cX5_definition 112 = .ok (.iload_n 2, 1) := by decide +kernel
theorem dX5_definition_113 : decode cX5_definition 113 = .ok (.bipush 112, 2) := by decide +kernel
theorem dX5_definition_115 : decode cX5_definition 115 = .ok (.if_icmp .eq 9, 3) := by decide +kernel
theorem dX5_definition_118 : decode cX5_definition 118 = .ok (.iload_n 2, 1) := by decide +kernel
theorem dX5_definition_119 : decode cX5_definition 119 = .ok (.bipush 115, 2) := by decide +kernel
theorem dX5_definition_121 : decode cX5_definition 121 = .ok (.if_icmp .ne 55, 3) := by decide +kernel
theorem dX5_definition_124 : decode cX5_definition 124 = .ok (.aload_n 0, 1) := by decide +kernel
theorem dX5_definition_125 : decode cX5_definition 125 = .ok (.bipush 58, 2) := by decide +kernel
theorem dX5_definition_127 : decode cX5_definition 127 = .ok (.invokevirtual 295, 3) := by decide +kernel
theorem dX5_definition_130 : decode cX5_definition 130 = .ok (.ifCond .eq 10, 3) := by decide +kernel
theorem dX5_definition_133 : decode cX5_definition 133 = .ok (.aload_n 0, 1) := by decide +kernel
theorem dX5_definition_134 : decode cX5_definition 134 = .ok (.invokevirtual 292, 3) := by decide +kernel
theorem dX5_definition_137 : decode cX5_definition 137 = .ok (.goto 4, 3) := by decide +kernel
theorem dX5_definition_140 : decode cX5_definition 140 = .ok (.iconst (-1), 1) := by decide +kernel
theorem dX5_definition_141 : decode cX5_definition 141 = .ok (.istore 5, 2) := by decide +kernel
theorem dX5_definition_143 : decode cX5_definition 143 = .ok (.iload 5, 2) := by decide +kernel
theorem dX5_definition_145 : decode cX5_definition 145 = .ok (.ifCond .ge 5, 3) := by decide +kernel
theorem dX5_definition_148 : decode cX5_definition 148 = .ok (.iconst (-1), 1) := by decide +kernel
theorem dX5_definition_149 : decode cX5_definition 149 = .ok (.ireturn, 1) := by decide +kernel
theorem dX5_definition_150 : decode cX5_definition 150 = .ok (.aload_n 0, 1) := by decide +kernel
theorem dX5_definition_151 : decode cX5_definition 151 = .ok (.bipush 44, 2) := by decide +kernel
theorem dX5_definition_153 : decode cX5_definition 153 = .ok (.invokevirtual 295, 3) := by decide +kernel
theorem dX5_definition_156 : decode cX5_definition 156 = .ok (.ifCond .eq 10, 3) := by decide +kernel
theorem dX5_definition_159 : decode cX5_definition 159 = .ok (.aload_n 0, 1) := by decide +kernel
theorem dX5_definition_160 : decode cX5_definition 160 = .ok (.invokevirtual 292, 3) := by decide +kernel
theorem dX5_definition_163 : decode cX5_definition 163 = .ok (.goto 4, 3) := by decide +kernel
theorem dX5_definition_166 : decode cX5_definition 166 = .ok (.iconst (-1), 1) := by decide +kernel
theorem dX5_definition_167 : decode cX5_definition 167 = .ok (.istore 6, 2) := by decide +kernel
theorem dX5_definition_169 : decode cX5_definition 169 = .ok (.iload 6, 2) := by decide +kernel
theorem dX5_definition_171 : decode cX5_definition 171 = .ok (.ifCond .ge 5, 3) := by decide +kernel
theorem dX5_definition_174 : decode cX5_definition 174 = .ok (.iconst (-1), 1) := by decide +kernel
theorem dX5_definition_175 : decode cX5_definition 175 = .ok (.ireturn, 1) := by decide +kernel
theorem dX5_definition_176 : decode cX5_definition 176 = .ok (.iconst 0, 1) := by decide +kernel
theorem dX5_definition_177 : decode cX5_definition 177 = .ok (.istore 7, 2) := by decide +kernel
theorem dX5_definition_179 : decode cX5_definition 179 = .ok (.iload_n 2, 1) := by decide +kernel
theorem dX5_definition_180 : decode cX5_definition 180 = .ok (.bipush 115, 2) := by decide +kernel
theorem dX5_definition_182 : decode cX5_definition 182 = .ok (.if_icmp .ne 29, 3) := by decide +kernel
theorem dX5_definition_185 : decode cX5_definition 185 = .ok (.aload_n 0, 1) := by decide +kernel
theorem dX5_definition_186 : decode cX5_definition 186 = .ok (.bipush 44, 2) := by decide +kernel
theorem dX5_definition_188 : decode cX5_definition 188 = .ok (.invokevirtual 295, 3) := by decide +kernel
theorem dX5_definition_191 : decode cX5_definition 191 = .ok (.ifCond .eq 10, 3) := by decide +kernel
theorem dX5_definition_194 : decode cX5_definition 194 = .ok (.aload_n 0, 1) := by decide +kernel
theorem dX5_definition_195 : decode cX5_definition 195 = .ok (.invokevirtual 292, 3) := by decide +kernel
theorem dX5_definition_198 : decode cX5_definition 198 = .ok (.goto 4, 3) := by decide +kernel
theorem dX5_definition_201 : decode cX5_definition 201 = .ok (.iconst (-1), 1) := by decide +kernel
theorem dX5_definition_202 : decode cX5_definition 202 = .ok (.istore 7, 2) := by decide +kernel
theorem dX5_definition_204 : decode cX5_definition 204 = .ok (.iload 7, 2) := by decide +kernel
theorem dX5_definition_206 : decode cX5_definition 206 = .ok (.ifCond .ge 5, 3) := by decide +kernel
theorem dX5_definition_209 : decode cX5_definition 209 = .ok (.iconst (-1), 1) := by decide +kernel
theorem dX5_definition_210 : decode cX5_definition 210 = .ok (.ireturn, 1) := by decide +kernel
theorem dX5_definition_211 : decode cX5_definition 211 = .ok (.iload_n 2, 1) := by decide +kernel
theorem dX5_definition_212 : decode cX5_definition 212 = .ok (.bipush 116, 2) := by decide +kernel
theorem dX5_definition_214 : decode cX5_definition 214 = .ok (.if_icmp .ne 45, 3) := by decide +kernel
theorem dX5_definition_217 : decode cX5_definition 217 = .ok (.aload_n 0, 1) := by decide +kernel
theorem dX5_definition_218 : decode cX5_definition 218 = .ok (.bipush 61, 2) := by decide +kernel
theorem dX5_definition_220 : decode cX5_definition 220 = .ok (.invokevirtual 295, 3) := by decide +kernel
theorem dX5_definition_223 : decode cX5_definition 223 = .ok (.ifCond .ne 5, 3) := by decide +kernel
theorem dX5_definition_226 : decode cX5_definition 226 = .ok (.iconst (-1), 1) := by decide +kernel
theorem dX5_definition_227 : decode cX5_definition 227 = .ok (.ireturn, 1) := by decide +kernel
theorem dX5_definition_228 : decode cX5_definition 228 = .ok (.aload_n 0, 1) := by decide +kernel
theorem dX5_definition_229 : decode cX5_definition 229 = .ok (.bipush 45, 2) := by decide +kernel
theorem dX5_definition_231 : decode cX5_definition 231 = .ok (.invokevirtual 295, 3) := by decide +kernel
theorem dX5_definition_234 : decode cX5_definition 234 = .ok (.istore 8, 2) := by decide +kernel
theorem dX5_definition_236 : decode cX5_definition 236 = .ok (.aload_n 0, 1) := by decide +kernel
theorem dX5_definition_237 : decode cX5_definition 237 = .ok (.invokevirtual 292, 3) := by decide +kernel
theorem dX5_definition_240 : decode cX5_definition 240 = .ok (.istore 4, 2) := by decide +kernel
theorem dX5_definition_242 : decode cX5_definition 242 = .ok (.iload 4, 2) := by decide +kernel
theorem dX5_definition_244 : decode cX5_definition 244 = .ok (.ifCond .ge 5, 3) := by decide +kernel
theorem dX5_definition_247 : decode cX5_definition 247 = .ok (.iconst (-1), 1) := by decide +kernel
theorem dX5_definition_248 : decode cX5_definition 248 = .ok (.ireturn, 1) := by decide +kernel
theorem dX5_definition_249 : decode cX5_definition 249 = .ok (.iload 8, 2) := by decide +kernel
theorem dX5_definition_251 : decode cX5_definition 251 = .ok (.ifCond .eq 8, 3) := by decide +kernel
theorem dX5_definition_254 : decode cX5_definition 254 = .ok (.iload 4, 2) := by decide +kernel
theorem dX5_definition_256 : decode cX5_definition 256 = .ok (.ineg, 1) := by decide +kernel
theorem dX5_definition_257 : decode cX5_definition 257 = .ok (.istore 4, 2) := by decide +kernel
theorem dX5_definition_259 : decode cX5_definition 259 = .ok (.aload_n 0, 1) := by decide +kernel
theorem dX5_definition_260 : decode cX5_definition 260 = .ok (.bipush 59, 2) := by decide +kernel
theorem dX5_definition_262 : decode cX5_definition 262 = .ok (.invokevirtual 295, 3) := by decide +kernel
theorem dX5_definition_265 : decode cX5_definition 265 = .ok (.ifCond .ne 5, 3) := by decide +kernel
theorem dX5_definition_268 : decode cX5_definition 268 = .ok (.iconst (-1), 1) := by decide +kernel
theorem dX5_definition_269 : decode cX5_definition 269 = .ok (.ireturn, 1) := by decide +kernel
theorem dX5_definition_270 : decode cX5_definition 270 = .ok (.iload_n 1, 1) := by decide +kernel
theorem dX5_definition_271 : decode cX5_definition 271 = .ok (.ifCond .ne 5, 3) := by decide +kernel
theorem dX5_definition_274 : decode cX5_definition 274 = .ok (.iconst 0, 1) := by decide +kernel
theorem dX5_definition_275 : decode cX5_definition 275 = .ok (.ireturn, 1) := by decide +kernel
theorem dX5_definition_276 : decode cX5_definition 276 = .ok (.iload_n 2, 1) := by decide +kernel
theorem dX5_definition_277 : decode cX5_definition 277 = .ok (.tableswitch 89 112 120 #[51, 89, 89, 63, 81, 89, 89, 89, 75], 51) := by decide +kernel
theorem dX5_definition_328 : decode cX5_definition 328 = .ok (.aload_n 0, 1) := by decide +kernel
theorem dX5_definition_329 : decode cX5_definition 329 = .ok (.iload_n 3, 1) := by decide +kernel
theorem dX5_definition_330 : decode cX5_definition 330 = .ok (.iload 4, 2) := by decide +kernel
theorem dX5_definition_332 : decode cX5_definition 332 = .ok (.iload 5, 2) := by decide +kernel
theorem dX5_definition_334 : decode cX5_definition 334 = .ok (.iload 6, 2) := by decide +kernel
theorem dX5_definition_336 : decode cX5_definition 336 = .ok (.invokevirtual 258, 3) := by decide +kernel
theorem dX5_definition_339 : decode cX5_definition 339 = .ok (.ireturn, 1) := by decide +kernel
theorem dX5_definition_340 : decode cX5_definition 340 = .ok (.aload_n 0, 1) := by decide +kernel
theorem dX5_definition_341 : decode cX5_definition 341 = .ok (.iload_n 3, 1) := by decide +kernel
theorem dX5_definition_342 : decode cX5_definition 342 = .ok (.iload 5, 2) := by decide +kernel
theorem dX5_definition_344 : decode cX5_definition 344 = .ok (.iload 6, 2) := by decide +kernel
theorem dX5_definition_346 : decode cX5_definition 346 = .ok (.iload 7, 2) := by decide +kernel
theorem dX5_definition_348 : decode cX5_definition 348 = .ok (.invokevirtual 268, 3) := by decide +kernel
theorem dX5_definition_351 : decode cX5_definition 351 = .ok (.ireturn, 1) := by decide +kernel
theorem dX5_definition_352 : decode cX5_definition 352 = .ok (.aload_n 0, 1) := by decide +kernel
theorem dX5_definition_353 : decode cX5_definition 353 = .ok (.iload_n 3, 1) := by decide +kernel
theorem dX5_definition_354 : decode cX5_definition 354 = .ok (.invokevirtual 274, 3) := by decide +kernel
theorem dX5_definition_357 : decode cX5_definition 357 = .ok (.ireturn, 1) := by decide +kernel
theorem dX5_definition_358 : decode cX5_definition 358 = .ok (.aload_n 0, 1) := by decide +kernel
theorem dX5_definition_359 : decode cX5_definition 359 = .ok (.iload_n 3, 1) := by decide +kernel
theorem dX5_definition_360 : decode cX5_definition 360 = .ok (.iload 4, 2) := by decide +kernel
theorem dX5_definition_362 : decode cX5_definition 362 = .ok (.invokevirtual 298, 3) := by decide +kernel
theorem dX5_definition_365 : decode cX5_definition 365 = .ok (.ireturn, 1) := by decide +kernel
theorem dX5_definition_366 : decode cX5_definition 366 = .ok (.aload_n 0, 1) := by decide +kernel
theorem dX5_definition_367 : decode cX5_definition 367 = .ok (.iload_n 3, 1) := by decide +kernel
theorem dX5_definition_368 : decode cX5_definition 368 = .ok (.invokevirtual 277, 3) := by decide +kernel
theorem dX5_definition_371 : decode cX5_definition 371 = .ok (.ireturn, 1) := by decide +kernel
theorem dX5_run_0 : decode cX5_run 0 = .ok (.aload_n 0, 1) := by decide +kernel
theorem dX5_run_1 : decode cX5_run 1 = .ok (.iconst 0, 1) := by decide +kernel
theorem dX5_run_2 : decode cX5_run 2 = .ok (.putfield 86, 3) := by decide +kernel
theorem dX5_run_5 : decode cX5_run 5 = .ok (.aload_n 0, 1) := by decide +kernel
theorem dX5_run_6 : decode cX5_run 6 = .ok (.invokevirtual 100, 3) := by decide +kernel
theorem dX5_run_9 : decode cX5_run 9 = .ok (.aload_n 0, 1) := by decide +kernel
theorem dX5_run_10 : decode cX5_run 10 = .ok (.iconst 0, 1) := by decide +kernel
theorem dX5_run_11 : decode cX5_run 11 = .ok (.putfield 283, 3) := by decide +kernel
theorem dX5_run_14 : decode cX5_run 14 = .ok (.iconst 0, 1) := by decide +kernel
theorem dX5_run_15 : decode cX5_run 15 = .ok (.istore_n 1, 1) := by decide +kernel
theorem dX5_run_16 : decode cX5_run 16 = .ok (.iconst 0, 1) := by decide +kernel
theorem dX5_run_17 : decode cX5_run 17 = .ok (.istore_n 2, 1) := by decide +kernel
theorem dX5_run_18 : decode cX5_run 18 = .ok (.iconst 1, 1) := by decide +kernel
theorem dX5_run_19 : decode cX5_run 19 = .ok (.istore_n 3, 1) := by decide +kernel
theorem dX5_run_20 : decode cX5_run 20 = .ok (.iload_n 3, 1) := by decide +kernel
theorem dX5_run_21 : decode cX5_run 21 = .ok (.ifCond .eq 76, 3) := by decide +kernel
theorem dX5_run_24 : decode cX5_run 24 = .ok (.aload_n 0, 1) := by decide +kernel
theorem dX5_run_25 : decode cX5_run 25 = .ok (.iload_n 2, 1) := by decide +kernel
theorem dX5_run_26 : decode cX5_run 26 = .ok (.ifCond .ne 7, 3) := by decide +kernel
theorem dX5_run_29 : decode cX5_run 29 = .ok (.iconst 1, 1) := by decide +kernel
theorem dX5_run_30 : decode cX5_run 30 = .ok (.goto 4, 3) := by decide +kernel
theorem dX5_run_33 : decode cX5_run 33 = .ok (.iconst 0, 1) := by decide +kernel
theorem dX5_run_34 : decode cX5_run 34 = .ok (.invokevirtual 301, 3) := by decide +kernel
theorem dX5_run_37 : decode cX5_run 37 = .ok (.istore 4, 2) := by decide +kernel
theorem dX5_run_39 : decode cX5_run 39 = .ok (.iload 4, 2) := by decide +kernel
theorem dX5_run_41 : decode cX5_run 41 = .ok (.ifCond .ge 26, 3) := by decide +kernel
theorem dX5_run_44 : decode cX5_run 44 = .ok (.aload_n 0, 1) := by decide +kernel
theorem dX5_run_45 : decode cX5_run 45 = .ok (.aload_n 0, 1) := by decide +kernel
theorem dX5_run_46 : decode cX5_run 46 = .ok (.getfield 283, 3) := by decide +kernel
theorem dX5_run_49 : decode cX5_run 49 = .ok (.putfield 38, 3) := by decide +kernel
theorem dX5_run_52 : decode cX5_run 52 = .ok (.aload_n 0, 1) := by decide +kernel
theorem dX5_run_53 : decode cX5_run 53 = .ok (.iconst 0, 1) := by decide +kernel
theorem dX5_run_54 : decode cX5_run 54 = .ok (.putfield 280, 3) := by decide +kernel
theorem dX5_run_57 : decode cX5_run 57 = .ok (.aload_n 0, 1) := by decide +kernel
theorem dX5_run_58 : decode cX5_run 58 = .ok (.invokevirtual 305, 3) := by decide +kernel
theorem dX5_run_61 : decode cX5_run 61 = .ok (.aload_n 0, 1) := by decide +kernel
theorem dX5_run_62 : decode cX5_run 62 = .ok (.iconst 1, 1) := by decide +kernel
theorem dX5_run_63 : decode cX5_run 63 = .ok (.invokevirtual 92, 3) := by decide +kernel
theorem dX5_run_66 : decode cX5_run 66 = .ok (.ireturn, 1) := by decide +kernel
theorem dX5_run_67 : decode cX5_run 67 = .ok (.iload_n 2, 1) := by decide +kernel
theorem dX5_run_68 : decode cX5_run 68 = .ok (.ifCond .ne 6, 3) := by decide +kernel
theorem dX5_run_71 : decode cX5_run 71 = .ok (.iload 4, 2) := by decide +kernel
theorem dX5_run_73 : decode cX5_run 73 = .ok (.istore_n 2, 1) := by decide +kernel
theorem dX5_run_74 : decode cX5_run 74 = .ok (.iinc 1 1, 3) := by decide +kernel
theorem dX5_run_77 : decode cX5_run 77 = .ok (.aload_n 0, 1) := by decide +kernel
theorem dX5_run_78 : decode cX5_run 78 = .ok (.getfield 283, 3) := by decide +kernel
theorem dX5_run_81 : decode cX5_run 81 = .ok (.aload_n 0, 1) := by decide +kernel
theorem dX5_run_82 : decode cX5_run 82 = .ok (.getfield 280, 3) := by decide +kernel
theorem dX5_run_85 : decode cX5_run 85 = .ok (.if_icmp .ge 7, 3) := by decide +kernel
theorem dX5_run_88 : decode cX5_run 88 = .ok (.iconst 1, 1) := by decide +kernel
theorem dX5_run_89 : decode cX5_run 89 = .ok (.goto 4, 3) := by decide +kernel
theorem dX5_run_92 : decode cX5_run 92 = .ok (.iconst 0, 1) := by decide +kernel
theorem dX5_run_93 : decode cX5_run 93 = .ok (.istore_n 3, 1) := by decide +kernel
theorem dX5_run_94 : decode cX5_run 94 = .ok (.goto (-74), 3) := by decide +kernel
theorem dX5_run_97 : decode cX5_run 97 = .ok (.aload_n 0, 1) := by decide +kernel
theorem dX5_run_98 : decode cX5_run 98 = .ok (.iconst (-1), 1) := by decide +kernel
theorem dX5_run_99 : decode cX5_run 99 = .ok (.putfield 38, 3) := by decide +kernel
theorem dX5_run_102 : decode cX5_run 102 = .ok (.aload_n 0, 1) := by decide +kernel
theorem dX5_run_103 : decode cX5_run 103 = .ok (.iconst 0, 1) := by decide +kernel
theorem dX5_run_104 : decode cX5_run 104 = .ok (.putfield 280, 3) := by decide +kernel
theorem dX5_run_107 : decode cX5_run 107 = .ok (.iload_n 2, 1) := by decide +kernel
theorem dX5_run_108 : decode cX5_run 108 = .ok (.ifCond .le 14, 3) := by decide +kernel
theorem dX5_run_111 : decode cX5_run 111 = .ok (.aload_n 0, 1) := by decide +kernel
theorem dX5_run_112 : decode cX5_run 112 = .ok (.invokevirtual 305, 3) := by decide +kernel
theorem dX5_run_115 : decode cX5_run 115 = .ok (.aload_n 0, 1) := by decide +kernel
theorem dX5_run_116 : decode cX5_run 116 = .ok (.iload_n 2, 1) := by decide +kernel
theorem dX5_run_117 : decode cX5_run 117 = .ok (.iconst 2, 1) := by decide +kernel
theorem dX5_run_118 : decode cX5_run 118 = .ok (.invokevirtual 262, 3) := by decide +kernel
theorem dX5_run_121 : decode cX5_run 121 = .ok (.ireturn, 1) := by decide +kernel
theorem dX5_run_122 : decode cX5_run 122 = .ok (.aload_n 0, 1) := by decide +kernel
theorem dX5_run_123 : decode cX5_run 123 = .ok (.invokevirtual 103, 3) := by decide +kernel
theorem dX5_run_126 : decode cX5_run 126 = .ok (.iload_n 1, 1) := by decide +kernel
theorem dX5_run_127 : decode cX5_run 127 = .ok (.ireturn, 1) := by decide +kernel
theorem dX5_faultPosition_0 : decode cX5_faultPosition 0 = .ok (.aload_n 0, 1) := by decide +kernel
theorem dX5_faultPosition_1 : decode cX5_faultPosition 1 = .ok (.iconst 0, 1) := by decide +kernel
theorem dX5_faultPosition_2 : decode cX5_faultPosition 2 = .ok (.putfield 86, 3) := by decide +kernel
theorem dX5_faultPosition_5 : decode cX5_faultPosition 5 = .ok (.aload_n 0, 1) := by decide +kernel
theorem dX5_faultPosition_6 : decode cX5_faultPosition 6 = .ok (.getfield 38, 3) := by decide +kernel
theorem dX5_faultPosition_9 : decode cX5_faultPosition 9 = .ok (.ireturn, 1) := by decide +kernel
theorem dX5_refusal_0 : decode cX5_refusal 0 = .ok (.aload_n 0, 1) := by decide +kernel
theorem dX5_refusal_1 : decode cX5_refusal 1 = .ok (.iconst 0, 1) := by decide +kernel
theorem dX5_refusal_2 : decode cX5_refusal 2 = .ok (.putfield 86, 3) := by decide +kernel
theorem dX5_refusal_5 : decode cX5_refusal 5 = .ok (.aload_n 0, 1) := by decide +kernel
theorem dX5_refusal_6 : decode cX5_refusal 6 = .ok (.getfield 89, 3) := by decide +kernel
theorem dX5_refusal_9 : decode cX5_refusal 9 = .ok (.ifCond .ne 11, 3) := by decide +kernel
theorem dX5_refusal_12 : decode cX5_refusal 12 = .ok (.aload_n 0, 1) := by decide +kernel
theorem dX5_refusal_13 : decode cX5_refusal 13 = .ok (.iconst 1, 1) := by decide +kernel
theorem dX5_refusal_14 : decode cX5_refusal 14 = .ok (.invokevirtual 92, 3) := by decide +kernel
theorem dX5_refusal_17 : decode cX5_refusal 17 = .ok (.goto 7, 3) := by decide +kernel
theorem dX5_refusal_20 : decode cX5_refusal 20 = .ok (.aload_n 0, 1) := by decide +kernel
theorem dX5_refusal_21 : decode cX5_refusal 21 = .ok (.getfield 89, 3) := by decide +kernel
theorem dX5_refusal_24 : decode cX5_refusal 24 = .ok (.ireturn, 1) := by decide +kernel
theorem dX5_pipe_0 : decode cX5_pipe 0 = .ok (.aload_n 0, 1) := by decide +kernel
theorem dX5_pipe_1 : decode cX5_pipe 1 = .ok (.iconst 0, 1) := by decide +kernel
theorem dX5_pipe_2 : decode cX5_pipe 2 = .ok (.putfield 86, 3) := by decide +kernel
theorem dX5_pipe_5 : decode cX5_pipe 5 = .ok (.aload_n 0, 1) := by decide +kernel
theorem dX5_pipe_6 : decode cX5_pipe 6 = .ok (.iload_n 1, 1) := by decide +kernel
theorem dX5_pipe_7 : decode cX5_pipe 7 = .ok (.invokevirtual 265, 3) := by decide +kernel
theorem dX5_pipe_10 : decode cX5_pipe 10 = .ok (.ifCond .ne 9, 3) := by decide +kernel
theorem dX5_pipe_13 : decode cX5_pipe 13 = .ok (.aload_n 0, 1) := by decide +kernel
theorem dX5_pipe_14 : decode cX5_pipe 14 = .ok (.iconst 1, 1) := by decide +kernel
theorem dX5_pipe_15 : decode cX5_pipe 15 = .ok (.invokevirtual 92, 3) := by decide +kernel
theorem dX5_pipe_18 : decode cX5_pipe 18 = .ok (.ireturn, 1) := by decide +kernel
theorem dX5_pipe_19 : decode cX5_pipe 19 = .ok (.iload_n 2, 1) := by decide +kernel
theorem dX5_pipe_20 : decode cX5_pipe 20 = .ok (.iconst 0, 1) := by decide +kernel
theorem dX5_pipe_21 : decode cX5_pipe 21 = .ok (.iconst 4, 1) := by decide +kernel
theorem dX5_pipe_22 : decode cX5_pipe 22 = .ok (.invokestatic 96, 3) := by decide +kernel
theorem dX5_pipe_25 : decode cX5_pipe 25 = .ok (.ifCond .ne 9, 3) := by decide +kernel
theorem dX5_pipe_28 : decode cX5_pipe 28 = .ok (.aload_n 0, 1) := by decide +kernel
theorem dX5_pipe_29 : decode cX5_pipe 29 = .ok (.iconst 2, 1) := by decide +kernel
theorem dX5_pipe_30 : decode cX5_pipe 30 = .ok (.invokevirtual 92, 3) := by decide +kernel
theorem dX5_pipe_33 : decode cX5_pipe 33 = .ok (.ireturn, 1) := by decide +kernel
theorem dX5_pipe_34 : decode cX5_pipe 34 = .ok (.iload_n 2, 1) := by decide +kernel
theorem dX5_pipe_35 : decode cX5_pipe 35 = .ok (.iconst 4, 1) := by decide +kernel
theorem dX5_pipe_36 : decode cX5_pipe 36 = .ok (.if_icmp .ge 10, 3) := by decide +kernel
theorem dX5_pipe_39 : decode cX5_pipe 39 = .ok (.aload_n 0, 1) := by decide +kernel
theorem dX5_pipe_40 : decode cX5_pipe 40 = .ok (.iload_n 1, 1) := by decide +kernel
theorem dX5_pipe_41 : decode cX5_pipe 41 = .ok (.iload_n 2, 1) := by decide +kernel
theorem dX5_pipe_42 : decode cX5_pipe 42 = .ok (.invokevirtual 110, 3) := by decide +kernel
theorem dX5_pipe_45 : decode cX5_pipe 45 = .ok (.ireturn, 1) := by decide +kernel
theorem dX5_pipe_46 : decode cX5_pipe 46 = .ok (.aload_n 0, 1) := by decide +kernel
theorem dX5_pipe_47 : decode cX5_pipe 47 = .ok (.invokevirtual 197, 3) := by decide +kernel
theorem dX5_pipe_50 : decode cX5_pipe 50 = .ok (.aload_n 0, 1) := by decide +kernel
theorem dX5_pipe_51 : decode cX5_pipe 51 = .ok (.iload_n 1, 1) := by decide +kernel
theorem dX5_pipe_52 : decode cX5_pipe 52 = .ok (.invokevirtual 135, 3) := by decide +kernel
theorem dX5_pipe_55 : decode cX5_pipe 55 = .ok (.ifCond .eq 7, 3) := by decide +kernel
theorem dX5_pipe_58 : decode cX5_pipe 58 = .ok (.iconst 1, 1) := by decide +kernel
theorem dX5_pipe_59 : decode cX5_pipe 59 = .ok (.goto 4, 3) := by decide +kernel
theorem dX5_pipe_62 : decode cX5_pipe 62 = .ok (.iconst 0, 1) := by decide +kernel
theorem dX5_pipe_63 : decode cX5_pipe 63 = .ok (.ireturn, 1) := by decide +kernel
theorem dX5_station_0 : decode cX5_station 0 = .ok (.aload_n 0, 1) := by decide +kernel
theorem dX5_station_1 : decode cX5_station 1 = .ok (.iconst 0, 1) := by decide +kernel
theorem dX5_station_2 : decode cX5_station 2 = .ok (.putfield 86, 3) := by decide +kernel
theorem dX5_station_5 : decode cX5_station 5 = .ok (.aload_n 0, 1) := by decide +kernel
theorem dX5_station_6 : decode cX5_station 6 = .ok (.iload_n 1, 1) := by decide +kernel
theorem dX5_station_7 : decode cX5_station 7 = .ok (.invokevirtual 180, 3) := by decide +kernel
theorem dX5_station_10 : decode cX5_station 10 = .ok (.ifCond .ne 9, 3) := by decide +kernel
theorem dX5_station_13 : decode cX5_station 13 = .ok (.aload_n 0, 1) := by decide +kernel
theorem dX5_station_14 : decode cX5_station 14 = .ok (.iconst 1, 1) := by decide +kernel
theorem dX5_station_15 : decode cX5_station 15 = .ok (.invokevirtual 92, 3) := by decide +kernel
theorem dX5_station_18 : decode cX5_station 18 = .ok (.ireturn, 1) := by decide +kernel
theorem dX5_station_19 : decode cX5_station 19 = .ok (.iload_n 2, 1) := by decide +kernel
theorem dX5_station_20 : decode cX5_station 20 = .ok (.iconst 0, 1) := by decide +kernel
theorem dX5_station_21 : decode cX5_station 21 = .ok (.bipush 7, 2) := by decide +kernel
theorem dX5_station_23 : decode cX5_station 23 = .ok (.invokestatic 96, 3) := by decide +kernel
theorem dX5_station_26 : decode cX5_station 26 = .ok (.ifCond .ne 9, 3) := by decide +kernel
theorem dX5_station_29 : decode cX5_station 29 = .ok (.aload_n 0, 1) := by decide +kernel
theorem dX5_station_30 : decode cX5_station 30 = .ok (.iconst 2, 1) := by decide +kernel
theorem dX5_station_31 : decode cX5_station 31 = .ok (.invokevirtual 92, 3) := by decide +kernel
theorem dX5_station_34 : decode cX5_station 34 = .ok (.ireturn, 1) := by decide +kernel
theorem dX5_station_35 : decode cX5_station 35 = .ok (.iload_n 2, 1) := by decide +kernel
theorem dX5_station_36 : decode cX5_station 36 = .ok (.iconst 5, 1) := by decide +kernel
theorem dX5_station_37 : decode cX5_station 37 = .ok (.if_icmp .ge 20, 3) := by decide +kernel
theorem dX5_station_40 : decode cX5_station 40 = .ok (.aload_n 0, 1) := by decide +kernel
theorem dX5_station_41 : decode cX5_station 41 = .ok (.getfield 9, 3) := by decide +kernel
theorem dX5_station_44 : decode cX5_station 44 = .ok (.bipush 48, 2) := by decide +kernel
theorem dX5_station_46 : decode cX5_station 46 = .ok (.bipush 6, 2) := by decide +kernel
theorem dX5_station_48 : decode cX5_station 48 = .ok (.iload_n 1, 1) := by decide +kernel
theorem dX5_station_49 : decode cX5_station 49 = .ok (.imul, 1) := by decide +kernel
theorem dX5_station_50 : decode cX5_station 50 = .ok (.iadd, 1) := by decide +kernel
theorem dX5_station_51 : decode cX5_station 51 = .ok (.iload_n 2, 1) := by decide +kernel
theorem dX5_station_52 : decode cX5_station 52 = .ok (.iadd, 1) := by decide +kernel
theorem dX5_station_53 : decode cX5_station 53 = .ok (.iconst 1, 1) := by decide +kernel
theorem dX5_station_54 : decode cX5_station 54 = .ok (.iadd, 1) := by decide +kernel
theorem dX5_station_55 : decode cX5_station 55 = .ok (.iaload, 1) := by decide +kernel
theorem dX5_station_56 : decode cX5_station 56 = .ok (.ireturn, 1) := by decide +kernel
theorem dX5_station_57 : decode cX5_station 57 = .ok (.iload_n 2, 1) := by decide +kernel
theorem dX5_station_58 : decode cX5_station 58 = .ok (.iconst 5, 1) := by decide +kernel
theorem dX5_station_59 : decode cX5_station 59 = .ok (.if_icmp .ne 9, 3) := by decide +kernel
theorem dX5_station_62 : decode cX5_station 62 = .ok (.aload_n 0, 1) := by decide +kernel
theorem dX5_station_63 : decode cX5_station 63 = .ok (.iload_n 1, 1) := by decide +kernel
theorem dX5_station_64 : decode cX5_station 64 = .ok (.invokevirtual 129, 3) := by decide +kernel
theorem dX5_station_67 : decode cX5_station 67 = .ok (.ireturn, 1) := by decide +kernel
theorem dX5_station_68 : decode cX5_station 68 = .ok (.iload_n 2, 1) := by decide +kernel
theorem dX5_station_69 : decode cX5_station 69 = .ok (.bipush 7, 2) := by decide +kernel
theorem dX5_station_71 : decode cX5_station 71 = .ok (.if_icmp .ne 9, 3) := by decide +kernel
theorem dX5_station_74 : decode cX5_station 74 = .ok (.aload_n 0, 1) := by decide +kernel
theorem dX5_station_75 : decode cX5_station 75 = .ok (.iload_n 1, 1) := by decide +kernel
theorem dX5_station_76 : decode cX5_station 76 = .ok (.invokevirtual 222, 3) := by decide +kernel
theorem dX5_station_79 : decode cX5_station 79 = .ok (.ireturn, 1) := by decide +kernel
theorem dX5_station_80 : decode cX5_station 80 = .ok (.aload_n 0, 1) := by decide +kernel
theorem dX5_station_81 : decode cX5_station 81 = .ok (.invokevirtual 236, 3) := by decide +kernel
theorem dX5_station_84 : decode cX5_station 84 = .ok (.aload_n 0, 1) := by decide +kernel
theorem dX5_station_85 : decode cX5_station 85 = .ok (.getfield 61, 3) := by decide +kernel
theorem dX5_station_88 : decode cX5_station 88 = .ok (.iload_n 1, 1) := by decide +kernel
theorem dX5_station_89 : decode cX5_station 89 = .ok (.iaload, 1) := by decide +kernel
theorem dX5_station_90 : decode cX5_station 90 = .ok (.ireturn, 1) := by decide +kernel
theorem dX5_meter_0 : decode cX5_meter 0 = .ok (.aload_n 0, 1) := by decide +kernel
theorem dX5_meter_1 : decode cX5_meter 1 = .ok (.iconst 0, 1) := by decide +kernel
theorem dX5_meter_2 : decode cX5_meter 2 = .ok (.putfield 86, 3) := by decide +kernel
theorem dX5_meter_5 : decode cX5_meter 5 = .ok (.aload_n 0, 1) := by decide +kernel
theorem dX5_meter_6 : decode cX5_meter 6 = .ok (.iload_n 1, 1) := by decide +kernel
theorem dX5_meter_7 : decode cX5_meter 7 = .ok (.invokevirtual 180, 3) := by decide +kernel
theorem dX5_meter_10 : decode cX5_meter 10 = .ok (.ifCond .ne 10, 3) := by decide +kernel
theorem dX5_meter_13 : decode cX5_meter 13 = .ok (.aload_n 0, 1) := by decide +kernel
theorem dX5_meter_14 : decode cX5_meter 14 = .ok (.iconst 1, 1) := by decide +kernel
theorem dX5_meter_15 : decode cX5_meter 15 = .ok (.invokevirtual 92, 3) := by decide +kernel
theorem dX5_meter_18 : decode cX5_meter 18 = .ok (.i2l, 1) := by decide +kernel
theorem dX5_meter_19 : decode cX5_meter 19 = .ok (.lreturn, 1) := by decide +kernel
theorem dX5_meter_20 : decode cX5_meter 20 = .ok (.iload_n 2, 1) := by decide +kernel
theorem dX5_meter_21 : decode cX5_meter 21 = .ok (.iconst 0, 1) := by decide +kernel
theorem dX5_meter_22 : decode cX5_meter 22 = .ok (.iconst 3, 1) := by decide +kernel
theorem dX5_meter_23 : decode cX5_meter 23 = .ok (.invokestatic 96, 3) := by decide +kernel
theorem dX5_meter_26 : decode cX5_meter 26 = .ok (.ifCond .ne 10, 3) := by decide +kernel
theorem dX5_meter_29 : decode cX5_meter 29 = .ok (.aload_n 0, 1) := by decide +kernel
theorem dX5_meter_30 : decode cX5_meter 30 = .ok (.iconst 2, 1) := by decide +kernel
theorem dX5_meter_31 : decode cX5_meter 31 = .ok (.invokevirtual 92, 3) := by decide +kernel
theorem dX5_meter_34 : decode cX5_meter 34 = .ok (.i2l, 1) := by decide +kernel
theorem dX5_meter_35 : decode cX5_meter 35 = .ok (.lreturn, 1) := by decide +kernel
theorem dX5_meter_36 : decode cX5_meter 36 = .ok (.iload_n 2, 1) := by decide +kernel
theorem dX5_meter_37 : decode cX5_meter 37 = .ok (.iconst 3, 1) := by decide +kernel
theorem dX5_meter_38 : decode cX5_meter 38 = .ok (.if_icmp .ge 15, 3) := by decide +kernel
theorem dX5_meter_41 : decode cX5_meter 41 = .ok (.aload_n 0, 1) := by decide +kernel
theorem dX5_meter_42 : decode cX5_meter 42 = .ok (.getfield 13, 3) := by decide +kernel
theorem dX5_meter_45 : decode cX5_meter 45 = .ok (.bipush 10, 2) := by decide +kernel
theorem dX5_meter_47 : decode cX5_meter 47 = .ok (.iload_n 2, 1) := by decide +kernel
theorem dX5_meter_48 : decode cX5_meter 48 = .ok (.imul, 1) := by decide +kernel
theorem dX5_meter_49 : decode cX5_meter 49 = .ok (.iload_n 1, 1) := by decide +kernel
theorem dX5_meter_50 : decode cX5_meter 50 = .ok (.iadd, 1) := by decide +kernel
theorem dX5_meter_51 : decode cX5_meter 51 = .ok (.laload, 1) := by decide +kernel
theorem dX5_meter_52 : decode cX5_meter 52 = .ok (.lreturn, 1) := by decide +kernel
theorem dX5_meter_53 : decode cX5_meter 53 = .ok (.aload_n 0, 1) := by decide +kernel
theorem dX5_meter_54 : decode cX5_meter 54 = .ok (.invokevirtual 236, 3) := by decide +kernel
theorem dX5_meter_57 : decode cX5_meter 57 = .ok (.aload_n 0, 1) := by decide +kernel
theorem dX5_meter_58 : decode cX5_meter 58 = .ok (.iload_n 1, 1) := by decide +kernel
theorem dX5_meter_59 : decode cX5_meter 59 = .ok (.invokevirtual 212, 3) := by decide +kernel
theorem dX5_meter_62 : decode cX5_meter 62 = .ok (.lreturn, 1) := by decide +kernel
theorem dX5_flow_0 : decode cX5_flow 0 = .ok (.aload_n 0, 1) := by decide +kernel
theorem dX5_flow_1 : decode cX5_flow 1 = .ok (.iconst 0, 1) := by decide +kernel
theorem dX5_flow_2 : decode cX5_flow 2 = .ok (.putfield 86, 3) := by decide +kernel
theorem dX5_flow_5 : decode cX5_flow 5 = .ok (.aload_n 0, 1) := by decide +kernel
theorem dX5_flow_6 : decode cX5_flow 6 = .ok (.iload_n 1, 1) := by decide +kernel
theorem dX5_flow_7 : decode cX5_flow 7 = .ok (.invokevirtual 265, 3) := by decide +kernel
theorem dX5_flow_10 : decode cX5_flow 10 = .ok (.ifCond .ne 9, 3) := by decide +kernel
theorem dX5_flow_13 : decode cX5_flow 13 = .ok (.aload_n 0, 1) := by decide +kernel
theorem dX5_flow_14 : decode cX5_flow 14 = .ok (.iconst 1, 1) := by decide +kernel
theorem dX5_flow_15 : decode cX5_flow 15 = .ok (.invokevirtual 92, 3) := by decide +kernel
theorem dX5_flow_18 : decode cX5_flow 18 = .ok (.ireturn, 1) := by decide +kernel
theorem dX5_flow_19 : decode cX5_flow 19 = .ok (.aload_n 0, 1) := by decide +kernel
theorem dX5_flow_20 : decode cX5_flow 20 = .ok (.invokevirtual 236, 3) := by decide +kernel
theorem dX5_flow_23 : decode cX5_flow 23 = .ok (.aload_n 0, 1) := by decide +kernel
theorem dX5_flow_24 : decode cX5_flow 24 = .ok (.getfield 70, 3) := by decide +kernel
theorem dX5_flow_27 : decode cX5_flow 27 = .ok (.iload_n 1, 1) := by decide +kernel
theorem dX5_flow_28 : decode cX5_flow 28 = .ok (.iaload, 1) := by decide +kernel
theorem dX5_flow_29 : decode cX5_flow 29 = .ok (.ireturn, 1) := by decide +kernel
theorem dX5_direction_0 : decode cX5_direction 0 = .ok (.aload_n 0, 1) := by decide +kernel
theorem dX5_direction_1 : decode cX5_direction 1 = .ok (.aload_n 0, 1) := by decide +kernel
theorem dX5_direction_2 : decode cX5_direction 2 = .ok (.iload_n 1, 1) := by decide +kernel
theorem dX5_direction_3 : decode cX5_direction 3 = .ok (.invokevirtual 265, 3) := by decide +kernel
theorem dX5_direction_6 : decode cX5_direction 6 = .ok (.ifCond .eq 7, 3) := by decide +kernel
theorem dX5_direction_9 : decode cX5_direction 9 = .ok (.iconst 0, 1) := by decide +kernel
theorem dX5_direction_10 : decode cX5_direction 10 = .ok (.goto 4, 3) := by decide +kernel
theorem dX5_direction_13 : decode cX5_direction 13 = .ok (.iconst 1, 1) := by decide +kernel
theorem dX5_direction_14 : decode cX5_direction 14 = .ok (.putfield 86, 3) := by decide +kernel
theorem dX5_direction_17 : decode cX5_direction 17 = .ok (.aload_n 0, 1) := by decide +kernel
theorem dX5_direction_18 : decode cX5_direction 18 = .ok (.getfield 86, 3) := by decide +kernel
theorem dX5_direction_21 : decode cX5_direction 21 = .ok (.ifCond .le 5, 3) := by decide +kernel
theorem dX5_direction_24 : decode cX5_direction 24 = .ok (.iconst 0, 1) := by decide +kernel
theorem dX5_direction_25 : decode cX5_direction 25 = .ok (.ireturn, 1) := by decide +kernel
theorem dX5_direction_26 : decode cX5_direction 26 = .ok (.aload_n 0, 1) := by decide +kernel
theorem dX5_direction_27 : decode cX5_direction 27 = .ok (.invokevirtual 236, 3) := by decide +kernel
theorem dX5_direction_30 : decode cX5_direction 30 = .ok (.aload_n 0, 1) := by decide +kernel
theorem dX5_direction_31 : decode cX5_direction 31 = .ok (.getfield 70, 3) := by decide +kernel
theorem dX5_direction_34 : decode cX5_direction 34 = .ok (.iload_n 1, 1) := by decide +kernel
theorem dX5_direction_35 : decode cX5_direction 35 = .ok (.iaload, 1) := by decide +kernel
theorem dX5_direction_36 : decode cX5_direction 36 = .ok (.ifCond .le 8, 3) := by decide +kernel
theorem dX5_direction_39 : decode cX5_direction 39 = .ok (.bipush 43, 2) := by decide +kernel
theorem dX5_direction_41 : decode cX5_direction 41 = .ok (.goto 19, 3) := by decide +kernel
theorem dX5_direction_44 : decode cX5_direction 44 = .ok (.aload_n 0, 1) := by decide +kernel
theorem dX5_direction_45 : decode cX5_direction 45 = .ok (.getfield 70, 3) := by decide +kernel
theorem dX5_direction_48 : decode cX5_direction 48 = .ok (.iload_n 1, 1) := by decide +kernel
theorem dX5_direction_49 : decode cX5_direction 49 = .ok (.iaload, 1) := by decide +kernel
theorem dX5_direction_50 : decode cX5_direction 50 = .ok (.ifCond .ge 8, 3) := by decide +kernel
theorem dX5_direction_53 : decode cX5_direction 53 = .ok (.bipush 45, 2) := by decide +kernel
theorem dX5_direction_55 : decode cX5_direction 55 = .ok (.goto 5, 3) := by decide +kernel
theorem dX5_direction_58 : decode cX5_direction 58 = .ok (.bipush 48, 2) := by decide +kernel
theorem dX5_direction_60 : decode cX5_direction 60 = .ok (.ireturn, 1) := by decide +kernel
theorem dX5_temperature_0 : decode cX5_temperature 0 = .ok (.aload_n 0, 1) := by decide +kernel
theorem dX5_temperature_1 : decode cX5_temperature 1 = .ok (.iconst 0, 1) := by decide +kernel
theorem dX5_temperature_2 : decode cX5_temperature 2 = .ok (.putfield 86, 3) := by decide +kernel
theorem dX5_temperature_5 : decode cX5_temperature 5 = .ok (.iload_n 1, 1) := by decide +kernel
theorem dX5_temperature_6 : decode cX5_temperature 6 = .ok (.invokestatic 229, 3) := by decide +kernel
theorem dX5_temperature_9 : decode cX5_temperature 9 = .ok (.ifCond .ne 9, 3) := by decide +kernel
theorem dX5_temperature_12 : decode cX5_temperature 12 = .ok (.aload_n 0, 1) := by decide +kernel
theorem dX5_temperature_13 : decode cX5_temperature 13 = .ok (.iconst 1, 1) := by decide +kernel
theorem dX5_temperature_14 : decode cX5_temperature 14 = .ok (.invokevirtual 92, 3) := by decide +kernel
theorem dX5_temperature_17 : decode cX5_temperature 17 = .ok (.ireturn, 1) := by decide +kernel
theorem dX5_temperature_18 : decode cX5_temperature 18 = .ok (.aload_n 0, 1) := by decide +kernel
theorem dX5_temperature_19 : decode cX5_temperature 19 = .ok (.invokevirtual 236, 3) := by decide +kernel
theorem dX5_temperature_22 : decode cX5_temperature 22 = .ok (.iload_n 2, 1) := by decide +kernel
theorem dX5_temperature_23 : decode cX5_temperature 23 = .ok (.ifCond .eq 12, 3) := by decide +kernel
theorem dX5_temperature_26 : decode cX5_temperature 26 = .ok (.aload_n 0, 1) := by decide +kernel
theorem dX5_temperature_27 : decode cX5_temperature 27 = .ok (.getfield 76, 3) := by decide +kernel
theorem dX5_temperature_30 : decode cX5_temperature 30 = .ok (.iload_n 1, 1) := by decide +kernel
theorem dX5_temperature_31 : decode cX5_temperature 31 = .ok (.iaload, 1) := by decide +kernel
theorem dX5_temperature_32 : decode cX5_temperature 32 = .ok (.goto 9, 3) := by decide +kernel
theorem dX5_temperature_35 : decode cX5_temperature 35 = .ok (.aload_n 0, 1) := by decide +kernel
theorem dX5_temperature_36 : decode cX5_temperature 36 = .ok (.getfield 73, 3) := by decide +kernel
theorem dX5_temperature_39 : decode cX5_temperature 39 = .ok (.iload_n 1, 1) := by decide +kernel
theorem dX5_temperature_40 : decode cX5_temperature 40 = .ok (.iaload, 1) := by decide +kernel
theorem dX5_temperature_41 : decode cX5_temperature 41 = .ok (.ireturn, 1) := by decide +kernel
theorem dX5_loss_0 : decode cX5_loss 0 = .ok (.aload_n 0, 1) := by decide +kernel
theorem dX5_loss_1 : decode cX5_loss 1 = .ok (.iconst 0, 1) := by decide +kernel
theorem dX5_loss_2 : decode cX5_loss 2 = .ok (.putfield 86, 3) := by decide +kernel
theorem dX5_loss_5 : decode cX5_loss 5 = .ok (.aload_n 0, 1) := by decide +kernel
theorem dX5_loss_6 : decode cX5_loss 6 = .ok (.iload_n 1, 1) := by decide +kernel
theorem dX5_loss_7 : decode cX5_loss 7 = .ok (.invokevirtual 265, 3) := by decide +kernel
theorem dX5_loss_10 : decode cX5_loss 10 = .ok (.ifCond .ne 10, 3) := by decide +kernel
theorem dX5_loss_13 : decode cX5_loss 13 = .ok (.aload_n 0, 1) := by decide +kernel
theorem dX5_loss_14 : decode cX5_loss 14 = .ok (.iconst 1, 1) := by decide +kernel
theorem dX5_loss_15 : decode cX5_loss 15 = .ok (.invokevirtual 92, 3) := by decide +kernel
theorem dX5_loss_18 : decode cX5_loss 18 = .ok (.i2l, 1) := by decide +kernel
theorem dX5_loss_19 : decode cX5_loss 19 = .ok (.lreturn, 1) := by decide +kernel
theorem dX5_loss_20 : decode cX5_loss 20 = .ok (.aload_n 0, 1) := by decide +kernel
theorem dX5_loss_21 : decode cX5_loss 21 = .ok (.invokevirtual 236, 3) := by decide +kernel
theorem dX5_loss_24 : decode cX5_loss 24 = .ok (.aload_n 0, 1) := by decide +kernel
theorem dX5_loss_25 : decode cX5_loss 25 = .ok (.iload_n 1, 1) := by decide +kernel
theorem dX5_loss_26 : decode cX5_loss 26 = .ok (.invokevirtual 308, 3) := by decide +kernel
theorem dX5_loss_29 : decode cX5_loss 29 = .ok (.lreturn, 1) := by decide +kernel
theorem dX5_rounding_0 : decode cX5_rounding 0 = .ok (.aload_n 0, 1) := by decide +kernel
theorem dX5_rounding_1 : decode cX5_rounding 1 = .ok (.iconst 0, 1) := by decide +kernel
theorem dX5_rounding_2 : decode cX5_rounding 2 = .ok (.putfield 86, 3) := by decide +kernel
theorem dX5_rounding_5 : decode cX5_rounding 5 = .ok (.iload_n 1, 1) := by decide +kernel
theorem dX5_rounding_6 : decode cX5_rounding 6 = .ok (.invokestatic 229, 3) := by decide +kernel
theorem dX5_rounding_9 : decode cX5_rounding 9 = .ok (.ifCond .ne 10, 3) := by decide +kernel
theorem dX5_rounding_12 : decode cX5_rounding 12 = .ok (.aload_n 0, 1) := by decide +kernel
theorem dX5_rounding_13 : decode cX5_rounding 13 = .ok (.iconst 1, 1) := by decide +kernel
theorem dX5_rounding_14 : decode cX5_rounding 14 = .ok (.invokevirtual 92, 3) := by decide +kernel
theorem dX5_rounding_17 : decode cX5_rounding 17 = .ok (.i2l, 1) := by decide +kernel
theorem dX5_rounding_18 : decode cX5_rounding 18 = .ok (.lreturn, 1) := by decide +kernel
theorem dX5_rounding_19 : decode cX5_rounding 19 = .ok (.aload_n 0, 1) := by decide +kernel
theorem dX5_rounding_20 : decode cX5_rounding 20 = .ok (.invokevirtual 236, 3) := by decide +kernel
theorem dX5_rounding_23 : decode cX5_rounding 23 = .ok (.aload_n 0, 1) := by decide +kernel
theorem dX5_rounding_24 : decode cX5_rounding 24 = .ok (.getfield 79, 3) := by decide +kernel
theorem dX5_rounding_27 : decode cX5_rounding 27 = .ok (.iload_n 1, 1) := by decide +kernel
theorem dX5_rounding_28 : decode cX5_rounding 28 = .ok (.laload, 1) := by decide +kernel
theorem dX5_rounding_29 : decode cX5_rounding 29 = .ok (.lreturn, 1) := by decide +kernel
theorem dX5_isJoined_0 : decode cX5_isJoined 0 = .ok (.iload_n 1, 1) := by decide +kernel
theorem dX5_isJoined_1 : decode cX5_isJoined 1 = .ok (.invokestatic 229, 3) := by decide +kernel
theorem dX5_isJoined_4 : decode cX5_isJoined 4 = .ok (.ifCond .ne 5, 3) := by decide +kernel
theorem dX5_isJoined_7 : decode cX5_isJoined 7 = .ok (.iconst 0, 1) := by decide +kernel
theorem dX5_isJoined_8 : decode cX5_isJoined 8 = .ok (.ireturn, 1) := by decide +kernel
theorem dX5_isJoined_9 : decode cX5_isJoined 9 = .ok (.aload_n 0, 1) := by decide +kernel
theorem dX5_isJoined_10 : decode cX5_isJoined 10 = .ok (.iconst 0, 1) := by decide +kernel
theorem dX5_isJoined_11 : decode cX5_isJoined 11 = .ok (.invokevirtual 117, 3) := by decide +kernel
theorem dX5_isJoined_14 : decode cX5_isJoined 14 = .ok (.aload_n 0, 1) := by decide +kernel
theorem dX5_isJoined_15 : decode cX5_isJoined 15 = .ok (.getfield 42, 3) := by decide +kernel
theorem dX5_isJoined_18 : decode cX5_isJoined 18 = .ok (.iload_n 1, 1) := by decide +kernel
theorem dX5_isJoined_19 : decode cX5_isJoined 19 = .ok (.iaload, 1) := by decide +kernel
theorem dX5_isJoined_20 : decode cX5_isJoined 20 = .ok (.ifCond .lt 7, 3) := by decide +kernel
theorem dX5_isJoined_23 : decode cX5_isJoined 23 = .ok (.iconst 1, 1) := by decide +kernel
theorem dX5_isJoined_24 : decode cX5_isJoined 24 = .ok (.goto 4, 3) := by decide +kernel
theorem dX5_isJoined_27 : decode cX5_isJoined 27 = .ok (.iconst 0, 1) := by decide +kernel
theorem dX5_isJoined_28 : decode cX5_isJoined 28 = .ok (.ireturn, 1) := by decide +kernel
theorem dX5_head_0 : decode cX5_head 0 = .ok (.aload_n 0, 1) := by decide +kernel
theorem dX5_head_1 : decode cX5_head 1 = .ok (.iconst 0, 1) := by decide +kernel
theorem dX5_head_2 : decode cX5_head 2 = .ok (.putfield 86, 3) := by decide +kernel
theorem dX5_head_5 : decode cX5_head 5 = .ok (.aload_n 0, 1) := by decide +kernel
theorem dX5_head_6 : decode cX5_head 6 = .ok (.iload_n 1, 1) := by decide +kernel
theorem dX5_head_7 : decode cX5_head 7 = .ok (.invokevirtual 311, 3) := by decide +kernel
theorem dX5_head_10 : decode cX5_head 10 = .ok (.ifCond .ne 10, 3) := by decide +kernel
theorem dX5_head_13 : decode cX5_head 13 = .ok (.aload_n 0, 1) := by decide +kernel
theorem dX5_head_14 : decode cX5_head 14 = .ok (.iconst 1, 1) := by decide +kernel
theorem dX5_head_15 : decode cX5_head 15 = .ok (.invokevirtual 92, 3) := by decide +kernel
theorem dX5_head_18 : decode cX5_head 18 = .ok (.i2l, 1) := by decide +kernel
theorem dX5_head_19 : decode cX5_head 19 = .ok (.lreturn, 1) := by decide +kernel
theorem dX5_head_20 : decode cX5_head 20 = .ok (.aload_n 0, 1) := by decide +kernel
theorem dX5_head_21 : decode cX5_head 21 = .ok (.invokevirtual 236, 3) := by decide +kernel
theorem dX5_head_24 : decode cX5_head 24 = .ok (.aload_n 0, 1) := by decide +kernel
theorem dX5_head_25 : decode cX5_head 25 = .ok (.iload_n 1, 1) := by decide +kernel
theorem dX5_head_26 : decode cX5_head 26 = .ok (.invokevirtual 225, 3) := by decide +kernel
theorem dX5_head_29 : decode cX5_head 29 = .ok (.lreturn, 1) := by decide +kernel
theorem dX5_neededHead_0 : decode cX5_neededHead 0 = .ok (.aload_n 0, 1) := by decide +kernel
theorem dX5_neededHead_1 : decode cX5_neededHead 1 = .ok (.iconst 0, 1) := by decide +kernel
theorem dX5_neededHead_2 : decode cX5_neededHead 2 = .ok (.putfield 86, 3) := by decide +kernel
theorem dX5_neededHead_5 : decode cX5_neededHead 5 = .ok (.aload_n 0, 1) := by decide +kernel
theorem dX5_neededHead_6 : decode cX5_neededHead 6 = .ok (.invokevirtual 236, 3) := by decide +kernel
theorem dX5_neededHead_9 : decode cX5_neededHead 9 = .ok (.aload_n 0, 1) := by decide +kernel
theorem dX5_neededHead_10 : decode cX5_neededHead 10 = .ok (.invokevirtual 239, 3) := by decide +kernel
theorem dX5_neededHead_13 : decode cX5_neededHead 13 = .ok (.lreturn, 1) := by decide +kernel
theorem dX5_imbalance_0 : decode cX5_imbalance 0 = .ok (.aload_n 0, 1) := by decide +kernel
theorem dX5_imbalance_1 : decode cX5_imbalance 1 = .ok (.iconst 0, 1) := by decide +kernel
theorem dX5_imbalance_2 : decode cX5_imbalance 2 = .ok (.putfield 86, 3) := by decide +kernel
theorem dX5_imbalance_5 : decode cX5_imbalance 5 = .ok (.aload_n 0, 1) := by decide +kernel
theorem dX5_imbalance_6 : decode cX5_imbalance 6 = .ok (.invokevirtual 236, 3) := by decide +kernel
theorem dX5_imbalance_9 : decode cX5_imbalance 9 = .ok (.aload_n 0, 1) := by decide +kernel
theorem dX5_imbalance_10 : decode cX5_imbalance 10 = .ok (.getfield 121, 3) := by decide +kernel
theorem dX5_imbalance_13 : decode cX5_imbalance 13 = .ok (.ifCond .ne 12, 3) := by decide +kernel
theorem dX5_imbalance_16 : decode cX5_imbalance 16 = .ok (.aload_n 0, 1) := by decide +kernel
theorem dX5_imbalance_17 : decode cX5_imbalance 17 = .ok (.iconst 1, 1) := by decide +kernel
theorem dX5_imbalance_18 : decode cX5_imbalance 18 = .ok (.invokevirtual 92, 3) := by decide +kernel
theorem dX5_imbalance_21 : decode cX5_imbalance 21 = .ok (.i2l, 1) := by decide +kernel
theorem dX5_imbalance_22 : decode cX5_imbalance 22 = .ok (.goto 7, 3) := by decide +kernel
theorem dX5_imbalance_25 : decode cX5_imbalance 25 = .ok (.aload_n 0, 1) := by decide +kernel
theorem dX5_imbalance_26 : decode cX5_imbalance 26 = .ok (.getfield 151, 3) := by decide +kernel
theorem dX5_imbalance_29 : decode cX5_imbalance 29 = .ok (.lreturn, 1) := by decide +kernel
theorem dX5_rounds_0 : decode cX5_rounds 0 = .ok (.aload_n 0, 1) := by decide +kernel
theorem dX5_rounds_1 : decode cX5_rounds 1 = .ok (.iconst 0, 1) := by decide +kernel
theorem dX5_rounds_2 : decode cX5_rounds 2 = .ok (.putfield 86, 3) := by decide +kernel
theorem dX5_rounds_5 : decode cX5_rounds 5 = .ok (.aload_n 0, 1) := by decide +kernel
theorem dX5_rounds_6 : decode cX5_rounds 6 = .ok (.invokevirtual 236, 3) := by decide +kernel
theorem dX5_rounds_9 : decode cX5_rounds 9 = .ok (.aload_n 0, 1) := by decide +kernel
theorem dX5_rounds_10 : decode cX5_rounds 10 = .ok (.getfield 200, 3) := by decide +kernel
theorem dX5_rounds_13 : decode cX5_rounds 13 = .ok (.ireturn, 1) := by decide +kernel
theorem dX5_loop_0 : decode cX5_loop 0 = .ok (.aload_n 0, 1) := by decide +kernel
theorem dX5_loop_1 : decode cX5_loop 1 = .ok (.iconst 0, 1) := by decide +kernel
theorem dX5_loop_2 : decode cX5_loop 2 = .ok (.putfield 86, 3) := by decide +kernel
theorem dX5_loop_5 : decode cX5_loop 5 = .ok (.aload_n 0, 1) := by decide +kernel
theorem dX5_loop_6 : decode cX5_loop 6 = .ok (.invokevirtual 197, 3) := by decide +kernel
theorem dX5_loop_9 : decode cX5_loop 9 = .ok (.iload_n 1, 1) := by decide +kernel
theorem dX5_loop_10 : decode cX5_loop 10 = .ok (.iconst 0, 1) := by decide +kernel
theorem dX5_loop_11 : decode cX5_loop 11 = .ok (.aload_n 0, 1) := by decide +kernel
theorem dX5_loop_12 : decode cX5_loop 12 = .ok (.getfield 121, 3) := by decide +kernel
theorem dX5_loop_15 : decode cX5_loop 15 = .ok (.iconst 1, 1) := by decide +kernel
theorem dX5_loop_16 : decode cX5_loop 16 = .ok (.isub, 1) := by decide +kernel
theorem dX5_loop_17 : decode cX5_loop 17 = .ok (.invokestatic 96, 3) := by decide +kernel
theorem dX5_loop_20 : decode cX5_loop 20 = .ok (.ifCond .eq 12, 3) := by decide +kernel
theorem dX5_loop_23 : decode cX5_loop 23 = .ok (.aload_n 0, 1) := by decide +kernel
theorem dX5_loop_24 : decode cX5_loop 24 = .ok (.getfield 55, 3) := by decide +kernel
theorem dX5_loop_27 : decode cX5_loop 27 = .ok (.iload_n 1, 1) := by decide +kernel
theorem dX5_loop_28 : decode cX5_loop 28 = .ok (.iaload, 1) := by decide +kernel
theorem dX5_loop_29 : decode cX5_loop 29 = .ok (.goto 8, 3) := by decide +kernel
theorem dX5_loop_32 : decode cX5_loop 32 = .ok (.aload_n 0, 1) := by decide +kernel
theorem dX5_loop_33 : decode cX5_loop 33 = .ok (.iconst 1, 1) := by decide +kernel
theorem dX5_loop_34 : decode cX5_loop 34 = .ok (.invokevirtual 92, 3) := by decide +kernel
theorem dX5_loop_37 : decode cX5_loop 37 = .ok (.ireturn, 1) := by decide +kernel
theorem dX5_distance_0 : decode cX5_distance 0 = .ok (.aload_n 0, 1) := by decide +kernel
theorem dX5_distance_1 : decode cX5_distance 1 = .ok (.iconst 0, 1) := by decide +kernel
theorem dX5_distance_2 : decode cX5_distance 2 = .ok (.putfield 86, 3) := by decide +kernel
theorem dX5_distance_5 : decode cX5_distance 5 = .ok (.aload_n 0, 1) := by decide +kernel
theorem dX5_distance_6 : decode cX5_distance 6 = .ok (.iload_n 1, 1) := by decide +kernel
theorem dX5_distance_7 : decode cX5_distance 7 = .ok (.invokevirtual 311, 3) := by decide +kernel
theorem dX5_distance_10 : decode cX5_distance 10 = .ok (.ifCond .eq 12, 3) := by decide +kernel
theorem dX5_distance_13 : decode cX5_distance 13 = .ok (.aload_n 0, 1) := by decide +kernel
theorem dX5_distance_14 : decode cX5_distance 14 = .ok (.getfield 42, 3) := by decide +kernel
theorem dX5_distance_17 : decode cX5_distance 17 = .ok (.iload_n 1, 1) := by decide +kernel
theorem dX5_distance_18 : decode cX5_distance 18 = .ok (.iaload, 1) := by decide +kernel
theorem dX5_distance_19 : decode cX5_distance 19 = .ok (.goto 8, 3) := by decide +kernel
theorem dX5_distance_22 : decode cX5_distance 22 = .ok (.aload_n 0, 1) := by decide +kernel
theorem dX5_distance_23 : decode cX5_distance 23 = .ok (.iconst 1, 1) := by decide +kernel
theorem dX5_distance_24 : decode cX5_distance 24 = .ok (.invokevirtual 92, 3) := by decide +kernel
theorem dX5_distance_27 : decode cX5_distance 27 = .ok (.ireturn, 1) := by decide +kernel
theorem dX5_part_0 : decode cX5_part 0 = .ok (.aload_n 0, 1) := by decide +kernel
theorem dX5_part_1 : decode cX5_part 1 = .ok (.iconst 0, 1) := by decide +kernel
theorem dX5_part_2 : decode cX5_part 2 = .ok (.putfield 86, 3) := by decide +kernel
theorem dX5_part_5 : decode cX5_part 5 = .ok (.iload_n 1, 1) := by decide +kernel
theorem dX5_part_6 : decode cX5_part 6 = .ok (.invokestatic 229, 3) := by decide +kernel
theorem dX5_part_9 : decode cX5_part 9 = .ok (.ifCond .ne 9, 3) := by decide +kernel
theorem dX5_part_12 : decode cX5_part 12 = .ok (.aload_n 0, 1) := by decide +kernel
theorem dX5_part_13 : decode cX5_part 13 = .ok (.iconst 1, 1) := by decide +kernel
theorem dX5_part_14 : decode cX5_part 14 = .ok (.invokevirtual 92, 3) := by decide +kernel
theorem dX5_part_17 : decode cX5_part 17 = .ok (.ireturn, 1) := by decide +kernel
theorem dX5_part_18 : decode cX5_part 18 = .ok (.aload_n 0, 1) := by decide +kernel
theorem dX5_part_19 : decode cX5_part 19 = .ok (.iload_n 1, 1) := by decide +kernel
theorem dX5_part_20 : decode cX5_part 20 = .ok (.invokevirtual 117, 3) := by decide +kernel
theorem dX5_part_23 : decode cX5_part 23 = .ok (.iconst 0, 1) := by decide +kernel
theorem dX5_part_24 : decode cX5_part 24 = .ok (.istore_n 2, 1) := by decide +kernel
theorem dX5_part_25 : decode cX5_part 25 = .ok (.iconst 0, 1) := by decide +kernel
theorem dX5_part_26 : decode cX5_part 26 = .ok (.istore_n 3, 1) := by decide +kernel
theorem dX5_part_27 : decode cX5_part 27 = .ok (.iload_n 3, 1) := by decide +kernel
theorem dX5_part_28 : decode cX5_part 28 = .ok (.bipush 10, 2) := by decide +kernel
theorem dX5_part_30 : decode cX5_part 30 = .ok (.if_icmp .ge 24, 3) := by decide +kernel
theorem dX5_part_33 : decode cX5_part 33 = .ok (.aload_n 0, 1) := by decide +kernel
theorem dX5_part_34 : decode cX5_part 34 = .ok (.getfield 42, 3) := by decide +kernel
theorem dX5_part_37 : decode cX5_part 37 = .ok (.iload_n 3, 1) := by decide +kernel
theorem dX5_part_38 : decode cX5_part 38 = .ok (.iaload, 1) := by decide +kernel
theorem dX5_part_39 : decode cX5_part 39 = .ok (.ifCond .lt 9, 3) := by decide +kernel
theorem dX5_part_42 : decode cX5_part 42 = .ok (.iload_n 2, 1) := by decide +kernel
theorem dX5_part_43 : decode cX5_part 43 = .ok (.iconst 1, 1) := by decide +kernel
theorem dX5_part_44 : decode cX5_part 44 = .ok (.iload_n 3, 1) := by decide +kernel
theorem dX5_part_45 : decode cX5_part 45 = .ok (.ishl, 1) := by decide +kernel
theorem dX5_part_46 : decode cX5_part 46 = .ok (.ior, 1) := by decide +kernel
theorem dX5_part_47 : decode cX5_part 47 = .ok (.istore_n 2, 1) := by decide +kernel
theorem dX5_part_48 : decode cX5_part 48 = .ok (.iinc 3 1, 3) := by decide +kernel
theorem dX5_part_51 : decode cX5_part 51 = .ok (.goto (-24), 3) := by decide +kernel
theorem dX5_part_54 : decode cX5_part 54 = .ok (.iload_n 2, 1) := by decide +kernel
theorem dX5_part_55 : decode cX5_part 55 = .ok (.ireturn, 1) := by decide +kernel
theorem dX5_isConnected_0 : decode cX5_isConnected 0 = .ok (.aload_n 0, 1) := by decide +kernel
theorem dX5_isConnected_1 : decode cX5_isConnected 1 = .ok (.iload_n 1, 1) := by decide +kernel
theorem dX5_isConnected_2 : decode cX5_isConnected 2 = .ok (.invokestatic 229, 3) := by decide +kernel
theorem dX5_isConnected_5 : decode cX5_isConnected 5 = .ok (.ifCond .eq 7, 3) := by decide +kernel
theorem dX5_isConnected_8 : decode cX5_isConnected 8 = .ok (.iconst 0, 1) := by decide +kernel
theorem dX5_isConnected_9 : decode cX5_isConnected 9 = .ok (.goto 4, 3) := by decide +kernel
theorem dX5_isConnected_12 : decode cX5_isConnected 12 = .ok (.iconst 1, 1) := by decide +kernel
theorem dX5_isConnected_13 : decode cX5_isConnected 13 = .ok (.putfield 86, 3) := by decide +kernel
theorem dX5_isConnected_16 : decode cX5_isConnected 16 = .ok (.aload_n 0, 1) := by decide +kernel
theorem dX5_isConnected_17 : decode cX5_isConnected 17 = .ok (.iload_n 1, 1) := by decide +kernel
theorem dX5_isConnected_18 : decode cX5_isConnected 18 = .ok (.invokevirtual 311, 3) := by decide +kernel
theorem dX5_isConnected_21 : decode cX5_isConnected 21 = .ok (.ireturn, 1) := by decide +kernel
theorem dX5_suspect_0 : decode cX5_suspect 0 = .ok (.aload_n 0, 1) := by decide +kernel
theorem dX5_suspect_1 : decode cX5_suspect 1 = .ok (.iconst 0, 1) := by decide +kernel
theorem dX5_suspect_2 : decode cX5_suspect 2 = .ok (.putfield 86, 3) := by decide +kernel
theorem dX5_suspect_5 : decode cX5_suspect 5 = .ok (.iconst (-1), 1) := by decide +kernel
theorem dX5_suspect_6 : decode cX5_suspect 6 = .ok (.istore_n 1, 1) := by decide +kernel
theorem dX5_suspect_7 : decode cX5_suspect 7 = .ok (.ldc2_w 314, 3) := by decide +kernel
theorem dX5_suspect_10 : decode cX5_suspect 10 = .ok (.lstore_n 2, 1) := by decide +kernel
theorem dX5_suspect_11 : decode cX5_suspect 11 = .ok (.iconst 1, 1) := by decide +kernel
theorem dX5_suspect_12 : decode cX5_suspect 12 = .ok (.istore 4, 2) := by decide +kernel
theorem dX5_suspect_14 : decode cX5_suspect 14 = .ok (.iload 4, 2) := by decide +kernel
theorem dX5_suspect_16 : decode cX5_suspect 16 = .ok (.bipush 10, 2) := by decide +kernel
theorem dX5_suspect_18 : decode cX5_suspect 18 = .ok (.if_icmp .ge 76, 3) := by decide +kernel
theorem dX5_suspect_21 : decode cX5_suspect 21 = .ok (.aload_n 0, 1) := by decide +kernel
theorem dX5_suspect_22 : decode cX5_suspect 22 = .ok (.iload 4, 2) := by decide +kernel
theorem dX5_suspect_24 : decode cX5_suspect 24 = .ok (.invokevirtual 180, 3) := by decide +kernel
theorem dX5_suspect_27 : decode cX5_suspect 27 = .ok (.ifCond .eq 61, 3) := by decide +kernel
theorem dX5_suspect_30 : decode cX5_suspect 30 = .ok (.aload_n 0, 1) := by decide +kernel
theorem dX5_suspect_31 : decode cX5_suspect 31 = .ok (.getfield 13, 3) := by decide +kernel
theorem dX5_suspect_34 : decode cX5_suspect 34 = .ok (.iconst 0, 1) := by decide +kernel
theorem dX5_suspect_35 : decode cX5_suspect 35 = .ok (.iload 4, 2) := by decide +kernel
theorem dX5_suspect_37 : decode cX5_suspect 37 = .ok (.iadd, 1) := by decide +kernel
theorem dX5_suspect_38 : decode cX5_suspect 38 = .ok (.laload, 1) := by decide +kernel
theorem dX5_suspect_39 : decode cX5_suspect 39 = .ok (.aload_n 0, 1) := by decide +kernel
theorem dX5_suspect_40 : decode cX5_suspect 40 = .ok (.getfield 13, 3) := by decide +kernel
theorem dX5_suspect_43 : decode cX5_suspect 43 = .ok (.bipush 10, 2) := by decide +kernel
theorem dX5_suspect_45 : decode cX5_suspect 45 = .ok (.iload 4, 2) := by decide +kernel
theorem dX5_suspect_47 : decode cX5_suspect 47 = .ok (.iadd, 1) := by decide +kernel
theorem dX5_suspect_48 : decode cX5_suspect 48 = .ok (.laload, 1) := by decide +kernel
theorem dX5_suspect_49 : decode cX5_suspect 49 = .ok (.lsub, 1) := by decide +kernel
theorem dX5_suspect_50 : decode cX5_suspect 50 = .ok (.invokestatic 147, 3) := by decide +kernel
theorem dX5_suspect_53 : decode cX5_suspect 53 = .ok (.lload_n 2, 1) := by decide +kernel
theorem dX5_suspect_54 : decode cX5_suspect 54 = .ok (.lcmp, 1) := by decide +kernel
theorem dX5_suspect_55 : decode cX5_suspect 55 = .ok (.ifCond .gt 6, 3) := by decide +kernel
theorem dX5_suspect_58 : decode cX5_suspect 58 = .ok (.goto 30, 3) := by decide +kernel
theorem dX5_suspect_61 : decode cX5_suspect 61 = .ok (.aload_n 0, 1) := by decide +kernel
theorem dX5_suspect_62 : decode cX5_suspect 62 = .ok (.getfield 13, 3) := by decide +kernel
theorem dX5_suspect_65 : decode cX5_suspect 65 = .ok (.iconst 0, 1) := by decide +kernel
theorem dX5_suspect_66 : decode cX5_suspect 66 = .ok (.iload 4, 2) := by decide +kernel
theorem dX5_suspect_68 : decode cX5_suspect 68 = .ok (.iadd, 1) := by decide +kernel
theorem dX5_suspect_69 : decode cX5_suspect 69 = .ok (.laload, 1) := by decide +kernel
theorem dX5_suspect_70 : decode cX5_suspect 70 = .ok (.aload_n 0, 1) := by decide +kernel
theorem dX5_suspect_71 : decode cX5_suspect 71 = .ok (.getfield 13, 3) := by decide +kernel
theorem dX5_suspect_74 : decode cX5_suspect 74 = .ok (.bipush 10, 2) := by decide +kernel
theorem dX5_suspect_76 : decode cX5_suspect 76 = .ok (.iload 4, 2) := by decide +kernel
theorem dX5_suspect_78 : decode cX5_suspect 78 = .ok (.iadd, 1) := by decide +kernel
theorem dX5_suspect_79 : decode cX5_suspect 79 = .ok (.laload, 1) := by decide +kernel
theorem dX5_suspect_80 : decode cX5_suspect 80 = .ok (.lsub, 1) := by decide +kernel
theorem dX5_suspect_81 : decode cX5_suspect 81 = .ok (.invokestatic 147, 3) := by decide +kernel
theorem dX5_suspect_84 : decode cX5_suspect 84 = .ok (.lstore_n 2, 1) := by decide +kernel
theorem dX5_suspect_85 : decode cX5_suspect 85 = .ok (.iload 4, 2) := by decide +kernel
theorem dX5_suspect_87 : decode cX5_suspect 87 = .ok (.istore_n 1, 1) := by decide +kernel
theorem dX5_suspect_88 : decode cX5_suspect 88 = .ok (.iinc 4 1, 3) := by decide +kernel
theorem dX5_suspect_91 : decode cX5_suspect 91 = .ok (.goto (-77), 3) := by decide +kernel
theorem dX5_suspect_94 : decode cX5_suspect 94 = .ok (.iload_n 1, 1) := by decide +kernel
theorem dX5_suspect_95 : decode cX5_suspect 95 = .ok (.ifCond .ge 11, 3) := by decide +kernel
theorem dX5_suspect_98 : decode cX5_suspect 98 = .ok (.aload_n 0, 1) := by decide +kernel
theorem dX5_suspect_99 : decode cX5_suspect 99 = .ok (.iconst 1, 1) := by decide +kernel
theorem dX5_suspect_100 : decode cX5_suspect 100 = .ok (.invokevirtual 92, 3) := by decide +kernel
theorem dX5_suspect_103 : decode cX5_suspect 103 = .ok (.goto 4, 3) := by decide +kernel
theorem dX5_suspect_106 : decode cX5_suspect 106 = .ok (.iload_n 1, 1) := by decide +kernel
theorem dX5_suspect_107 : decode cX5_suspect 107 = .ok (.ireturn, 1) := by decide +kernel
theorem dX5_trial_0 : decode cX5_trial 0 = .ok (.aload_n 0, 1) := by decide +kernel
theorem dX5_trial_1 : decode cX5_trial 1 = .ok (.iconst 0, 1) := by decide +kernel
theorem dX5_trial_2 : decode cX5_trial 2 = .ok (.putfield 86, 3) := by decide +kernel
theorem dX5_trial_5 : decode cX5_trial 5 = .ok (.aload_n 0, 1) := by decide +kernel
theorem dX5_trial_6 : decode cX5_trial 6 = .ok (.iload_n 1, 1) := by decide +kernel
theorem dX5_trial_7 : decode cX5_trial 7 = .ok (.invokevirtual 180, 3) := by decide +kernel
theorem dX5_trial_10 : decode cX5_trial 10 = .ok (.ifCond .ne 10, 3) := by decide +kernel
theorem dX5_trial_13 : decode cX5_trial 13 = .ok (.aload_n 0, 1) := by decide +kernel
theorem dX5_trial_14 : decode cX5_trial 14 = .ok (.iconst 1, 1) := by decide +kernel
theorem dX5_trial_15 : decode cX5_trial 15 = .ok (.invokevirtual 92, 3) := by decide +kernel
theorem dX5_trial_18 : decode cX5_trial 18 = .ok (.i2l, 1) := by decide +kernel
theorem dX5_trial_19 : decode cX5_trial 19 = .ok (.lreturn, 1) := by decide +kernel
theorem dX5_trial_20 : decode cX5_trial 20 = .ok (.iload_n 2, 1) := by decide +kernel
theorem dX5_trial_21 : decode cX5_trial 21 = .ok (.sipush 200, 3) := by decide +kernel
theorem dX5_trial_24 : decode cX5_trial 24 = .ok (.sipush 600, 3) := by decide +kernel
theorem dX5_trial_27 : decode cX5_trial 27 = .ok (.invokestatic 96, 3) := by decide +kernel
theorem dX5_trial_30 : decode cX5_trial 30 = .ok (.ifCond .ne 10, 3) := by decide +kernel
theorem dX5_trial_33 : decode cX5_trial 33 = .ok (.aload_n 0, 1) := by decide +kernel
theorem dX5_trial_34 : decode cX5_trial 34 = .ok (.iconst 2, 1) := by decide +kernel
theorem dX5_trial_35 : decode cX5_trial 35 = .ok (.invokevirtual 92, 3) := by decide +kernel
theorem dX5_trial_38 : decode cX5_trial 38 = .ok (.i2l, 1) := by decide +kernel
theorem dX5_trial_39 : decode cX5_trial 39 = .ok (.lreturn, 1) := by decide +kernel
theorem dX5_trial_40 : decode cX5_trial 40 = .ok (.aload_n 0, 1) := by decide +kernel
theorem dX5_trial_41 : decode cX5_trial 41 = .ok (.getfield 9, 3) := by decide +kernel
theorem dX5_trial_44 : decode cX5_trial 44 = .ok (.bipush 48, 2) := by decide +kernel
theorem dX5_trial_46 : decode cX5_trial 46 = .ok (.bipush 6, 2) := by decide +kernel
theorem dX5_trial_48 : decode cX5_trial 48 = .ok (.iload_n 1, 1) := by decide +kernel
theorem dX5_trial_49 : decode cX5_trial 49 = .ok (.imul, 1) := by decide +kernel
theorem dX5_trial_50 : decode cX5_trial 50 = .ok (.iadd, 1) := by decide +kernel
theorem dX5_trial_51 : decode cX5_trial 51 = .ok (.iconst 2, 1) := by decide +kernel
theorem dX5_trial_52 : decode cX5_trial 52 = .ok (.iadd, 1) := by decide +kernel
theorem dX5_trial_53 : decode cX5_trial 53 = .ok (.iaload, 1) := by decide +kernel
theorem dX5_trial_54 : decode cX5_trial 54 = .ok (.istore_n 3, 1) := by decide +kernel
theorem dX5_trial_55 : decode cX5_trial 55 = .ok (.aload_n 0, 1) := by decide +kernel
theorem dX5_trial_56 : decode cX5_trial 56 = .ok (.getfield 9, 3) := by decide +kernel
theorem dX5_trial_59 : decode cX5_trial 59 = .ok (.bipush 48, 2) := by decide +kernel
theorem dX5_trial_61 : decode cX5_trial 61 = .ok (.bipush 6, 2) := by decide +kernel
theorem dX5_trial_63 : decode cX5_trial 63 = .ok (.iload_n 1, 1) := by decide +kernel
theorem dX5_trial_64 : decode cX5_trial 64 = .ok (.imul, 1) := by decide +kernel
theorem dX5_trial_65 : decode cX5_trial 65 = .ok (.iadd, 1) := by decide +kernel
theorem dX5_trial_66 : decode cX5_trial 66 = .ok (.iconst 2, 1) := by decide +kernel
theorem dX5_trial_67 : decode cX5_trial 67 = .ok (.iadd, 1) := by decide +kernel
theorem dX5_trial_68 : decode cX5_trial 68 = .ok (.iload_n 2, 1) := by decide +kernel
theorem dX5_trial_69 : decode cX5_trial 69 = .ok (.iastore, 1) := by decide +kernel
theorem dX5_trial_70 : decode cX5_trial 70 = .ok (.aload_n 0, 1) := by decide +kernel
theorem dX5_trial_71 : decode cX5_trial 71 = .ok (.invokevirtual 236, 3) := by decide +kernel
theorem dX5_trial_74 : decode cX5_trial 74 = .ok (.aload_n 0, 1) := by decide +kernel
theorem dX5_trial_75 : decode cX5_trial 75 = .ok (.invokevirtual 243, 3) := by decide +kernel
theorem dX5_trial_78 : decode cX5_trial 78 = .ok (.lstore 4, 2) := by decide +kernel
theorem dX5_trial_80 : decode cX5_trial 80 = .ok (.aload_n 0, 1) := by decide +kernel
theorem dX5_trial_81 : decode cX5_trial 81 = .ok (.getfield 9, 3) := by decide +kernel
theorem dX5_trial_84 : decode cX5_trial 84 = .ok (.bipush 48, 2) := by decide +kernel
theorem dX5_trial_86 : decode cX5_trial 86 = .ok (.bipush 6, 2) := by decide +kernel
theorem dX5_trial_88 : decode cX5_trial 88 = .ok (.iload_n 1, 1) := by decide +kernel
theorem dX5_trial_89 : decode cX5_trial 89 = .ok (.imul, 1) := by decide +kernel
theorem dX5_trial_90 : decode cX5_trial 90 = .ok (.iadd, 1) := by decide +kernel
theorem dX5_trial_91 : decode cX5_trial 91 = .ok (.iconst 2, 1) := by decide +kernel
theorem dX5_trial_92 : decode cX5_trial 92 = .ok (.iadd, 1) := by decide +kernel
theorem dX5_trial_93 : decode cX5_trial 93 = .ok (.iload_n 3, 1) := by decide +kernel
theorem dX5_trial_94 : decode cX5_trial 94 = .ok (.iastore, 1) := by decide +kernel
theorem dX5_trial_95 : decode cX5_trial 95 = .ok (.lload 4, 2) := by decide +kernel
theorem dX5_trial_97 : decode cX5_trial 97 = .ok (.lreturn, 1) := by decide +kernel
theorem dX5_bestReturn_0 : decode cX5_bestReturn 0 = .ok (.aload_n 0, 1) := by decide +kernel
theorem dX5_bestReturn_1 : decode cX5_bestReturn 1 = .ok (.iconst 0, 1) := by decide +kernel
theorem dX5_bestReturn_2 : decode cX5_bestReturn 2 = .ok (.putfield 86, 3) := by decide +kernel
theorem dX5_bestReturn_5 : decode cX5_bestReturn 5 = .ok (.aload_n 0, 1) := by decide +kernel
theorem dX5_bestReturn_6 : decode cX5_bestReturn 6 = .ok (.iload_n 1, 1) := by decide +kernel
theorem dX5_bestReturn_7 : decode cX5_bestReturn 7 = .ok (.invokevirtual 180, 3) := by decide +kernel
theorem dX5_bestReturn_10 : decode cX5_bestReturn 10 = .ok (.ifCond .ne 9, 3) := by decide +kernel
theorem dX5_bestReturn_13 : decode cX5_bestReturn 13 = .ok (.aload_n 0, 1) := by decide +kernel
theorem dX5_bestReturn_14 : decode cX5_bestReturn 14 = .ok (.iconst 1, 1) := by decide +kernel
theorem dX5_bestReturn_15 : decode cX5_bestReturn 15 = .ok (.invokevirtual 92, 3) := by decide +kernel
theorem dX5_bestReturn_18 : decode cX5_bestReturn 18 = .ok (.ireturn, 1) := by decide +kernel
theorem dX5_bestReturn_19 : decode cX5_bestReturn 19 = .ok (.aload_n 0, 1) := by decide +kernel
theorem dX5_bestReturn_20 : decode cX5_bestReturn 20 = .ok (.getfield 9, 3) := by decide +kernel
theorem dX5_bestReturn_23 : decode cX5_bestReturn 23 = .ok (.bipush 48, 2) := by decide +kernel
theorem dX5_bestReturn_25 : decode cX5_bestReturn 25 = .ok (.bipush 6, 2) := by decide +kernel
theorem dX5_bestReturn_27 : decode cX5_bestReturn 27 = .ok (.iload_n 1, 1) := by decide +kernel
theorem dX5_bestReturn_28 : decode cX5_bestReturn 28 = .ok (.imul, 1) := by decide +kernel
theorem dX5_bestReturn_29 : decode cX5_bestReturn 29 = .ok (.iadd, 1) := by decide +kernel
theorem dX5_bestReturn_30 : decode cX5_bestReturn 30 = .ok (.iconst 2, 1) := by decide +kernel
theorem dX5_bestReturn_31 : decode cX5_bestReturn 31 = .ok (.iadd, 1) := by decide +kernel
theorem dX5_bestReturn_32 : decode cX5_bestReturn 32 = .ok (.iaload, 1) := by decide +kernel
theorem dX5_bestReturn_33 : decode cX5_bestReturn 33 = .ok (.istore_n 2, 1) := by decide +kernel
theorem dX5_bestReturn_34 : decode cX5_bestReturn 34 = .ok (.iconst (-1), 1) := by decide +kernel
theorem dX5_bestReturn_35 : decode cX5_bestReturn 35 = .ok (.istore_n 3, 1) := by decide +kernel
theorem dX5_bestReturn_36 : decode cX5_bestReturn 36 = .ok (.lconst 0, 1) := by decide +kernel
theorem dX5_bestReturn_37 : decode cX5_bestReturn 37 = .ok (.lstore 4, 2) := by decide +kernel
theorem dX5_bestReturn_39 : decode cX5_bestReturn 39 = .ok (.sipush 200, 3) := by decide +kernel
theorem dX5_bestReturn_42 : decode cX5_bestReturn 42 = .ok (.istore 6, 2) := by decide +kernel
theorem dX5_bestReturn_44 : decode cX5_bestReturn 44 = .ok (.iload 6, 2) := by decide +kernel
theorem dX5_bestReturn_46 : decode cX5_bestReturn 46 = .ok (.sipush 600, 3) := by decide +kernel
theorem dX5_bestReturn_49 : decode cX5_bestReturn 49 = .ok (.if_icmp .gt 57, 3) := by decide +kernel
theorem dX5_bestReturn_52 : decode cX5_bestReturn 52 = .ok (.aload_n 0, 1) := by decide +kernel
theorem dX5_bestReturn_53 : decode cX5_bestReturn 53 = .ok (.getfield 9, 3) := by decide +kernel
theorem dX5_bestReturn_56 : decode cX5_bestReturn 56 = .ok (.bipush 48, 2) := by decide +kernel
theorem dX5_bestReturn_58 : decode cX5_bestReturn 58 = .ok (.bipush 6, 2) := by decide +kernel
theorem dX5_bestReturn_60 : decode cX5_bestReturn 60 = .ok (.iload_n 1, 1) := by decide +kernel
theorem dX5_bestReturn_61 : decode cX5_bestReturn 61 = .ok (.imul, 1) := by decide +kernel
theorem dX5_bestReturn_62 : decode cX5_bestReturn 62 = .ok (.iadd, 1) := by decide +kernel
theorem dX5_bestReturn_63 : decode cX5_bestReturn 63 = .ok (.iconst 2, 1) := by decide +kernel
theorem dX5_bestReturn_64 : decode cX5_bestReturn 64 = .ok (.iadd, 1) := by decide +kernel
theorem dX5_bestReturn_65 : decode cX5_bestReturn 65 = .ok (.iload 6, 2) := by decide +kernel
theorem dX5_bestReturn_67 : decode cX5_bestReturn 67 = .ok (.iastore, 1) := by decide +kernel
theorem dX5_bestReturn_68 : decode cX5_bestReturn 68 = .ok (.aload_n 0, 1) := by decide +kernel
theorem dX5_bestReturn_69 : decode cX5_bestReturn 69 = .ok (.invokevirtual 236, 3) := by decide +kernel
theorem dX5_bestReturn_72 : decode cX5_bestReturn 72 = .ok (.iload_n 3, 1) := by decide +kernel
theorem dX5_bestReturn_73 : decode cX5_bestReturn 73 = .ok (.ifCond .lt 17, 3) := by decide +kernel
theorem dX5_bestReturn_76 : decode cX5_bestReturn 76 = .ok (.aload_n 0, 1) := by decide +kernel
theorem dX5_bestReturn_77 : decode cX5_bestReturn 77 = .ok (.iload_n 1, 1) := by decide +kernel
theorem dX5_bestReturn_78 : decode cX5_bestReturn 78 = .ok (.invokevirtual 249, 3) := by decide +kernel
theorem dX5_bestReturn_81 : decode cX5_bestReturn 81 = .ok (.lload 4, 2) := by decide +kernel
theorem dX5_bestReturn_83 : decode cX5_bestReturn 83 = .ok (.lcmp, 1) := by decide +kernel
theorem dX5_bestReturn_84 : decode cX5_bestReturn 84 = .ok (.ifCond .lt 6, 3) := by decide +kernel
theorem dX5_bestReturn_87 : decode cX5_bestReturn 87 = .ok (.goto 13, 3) := by decide +kernel
theorem dX5_bestReturn_90 : decode cX5_bestReturn 90 = .ok (.iload 6, 2) := by decide +kernel
theorem dX5_bestReturn_92 : decode cX5_bestReturn 92 = .ok (.istore_n 3, 1) := by decide +kernel
theorem dX5_bestReturn_93 : decode cX5_bestReturn 93 = .ok (.aload_n 0, 1) := by decide +kernel
theorem dX5_bestReturn_94 : decode cX5_bestReturn 94 = .ok (.iload_n 1, 1) := by decide +kernel
theorem dX5_bestReturn_95 : decode cX5_bestReturn 95 = .ok (.invokevirtual 249, 3) := by decide +kernel
theorem dX5_bestReturn_98 : decode cX5_bestReturn 98 = .ok (.lstore 4, 2) := by decide +kernel
theorem dX5_bestReturn_100 : decode cX5_bestReturn 100 = .ok (.iinc 6 50, 3) := by decide +kernel
theorem dX5_bestReturn_103 : decode cX5_bestReturn 103 = .ok (.goto (-59), 3) := by decide +kernel
theorem dX5_bestReturn_106 : decode cX5_bestReturn 106 = .ok (.aload_n 0, 1) := by decide +kernel
theorem dX5_bestReturn_107 : decode cX5_bestReturn 107 = .ok (.getfield 9, 3) := by decide +kernel
theorem dX5_bestReturn_110 : decode cX5_bestReturn 110 = .ok (.bipush 48, 2) := by decide +kernel
theorem dX5_bestReturn_112 : decode cX5_bestReturn 112 = .ok (.bipush 6, 2) := by decide +kernel
theorem dX5_bestReturn_114 : decode cX5_bestReturn 114 = .ok (.iload_n 1, 1) := by decide +kernel
theorem dX5_bestReturn_115 : decode cX5_bestReturn 115 = .ok (.imul, 1) := by decide +kernel
theorem dX5_bestReturn_116 : decode cX5_bestReturn 116 = .ok (.iadd, 1) := by decide +kernel
theorem dX5_bestReturn_117 : decode cX5_bestReturn 117 = .ok (.iconst 2, 1) := by decide +kernel
theorem dX5_bestReturn_118 : decode cX5_bestReturn 118 = .ok (.iadd, 1) := by decide +kernel
theorem dX5_bestReturn_119 : decode cX5_bestReturn 119 = .ok (.iload_n 2, 1) := by decide +kernel
theorem dX5_bestReturn_120 : decode cX5_bestReturn 120 = .ok (.iastore, 1) := by decide +kernel
theorem dX5_bestReturn_121 : decode cX5_bestReturn 121 = .ok (.iload_n 3, 1) := by decide +kernel
theorem dX5_bestReturn_122 : decode cX5_bestReturn 122 = .ok (.ireturn, 1) := by decide +kernel
theorem dX5_account_0 : decode cX5_account 0 = .ok (.aload_n 0, 1) := by decide +kernel
theorem dX5_account_1 : decode cX5_account 1 = .ok (.iconst 0, 1) := by decide +kernel
theorem dX5_account_2 : decode cX5_account 2 = .ok (.putfield 86, 3) := by decide +kernel
theorem dX5_account_5 : decode cX5_account 5 = .ok (.iload_n 1, 1) := by decide +kernel
theorem dX5_account_6 : decode cX5_account 6 = .ok (.iconst 0, 1) := by decide +kernel
theorem dX5_account_7 : decode cX5_account 7 = .ok (.bipush 7, 2) := by decide +kernel
theorem dX5_account_9 : decode cX5_account 9 = .ok (.invokestatic 96, 3) := by decide +kernel
theorem dX5_account_12 : decode cX5_account 12 = .ok (.ifCond .ne 10, 3) := by decide +kernel
theorem dX5_account_15 : decode cX5_account 15 = .ok (.aload_n 0, 1) := by decide +kernel
theorem dX5_account_16 : decode cX5_account 16 = .ok (.iconst 1, 1) := by decide +kernel
theorem dX5_account_17 : decode cX5_account 17 = .ok (.invokevirtual 92, 3) := by decide +kernel
theorem dX5_account_20 : decode cX5_account 20 = .ok (.i2l, 1) := by decide +kernel
theorem dX5_account_21 : decode cX5_account 21 = .ok (.lreturn, 1) := by decide +kernel
theorem dX5_account_22 : decode cX5_account 22 = .ok (.iload_n 1, 1) := by decide +kernel
theorem dX5_account_23 : decode cX5_account 23 = .ok (.iconst 3, 1) := by decide +kernel
theorem dX5_account_24 : decode cX5_account 24 = .ok (.if_icmp .le 15, 3) := by decide +kernel
theorem dX5_account_27 : decode cX5_account 27 = .ok (.aload_n 0, 1) := by decide +kernel
theorem dX5_account_28 : decode cX5_account 28 = .ok (.getfield 13, 3) := by decide +kernel
theorem dX5_account_31 : decode cX5_account 31 = .ok (.bipush 30, 2) := by decide +kernel
theorem dX5_account_33 : decode cX5_account 33 = .ok (.iload_n 1, 1) := by decide +kernel
theorem dX5_account_34 : decode cX5_account 34 = .ok (.iadd, 1) := by decide +kernel
theorem dX5_account_35 : decode cX5_account 35 = .ok (.iconst 4, 1) := by decide +kernel
theorem dX5_account_36 : decode cX5_account 36 = .ok (.isub, 1) := by decide +kernel
theorem dX5_account_37 : decode cX5_account 37 = .ok (.laload, 1) := by decide +kernel
theorem dX5_account_38 : decode cX5_account 38 = .ok (.lreturn, 1) := by decide +kernel
theorem dX5_account_39 : decode cX5_account 39 = .ok (.aload_n 0, 1) := by decide +kernel
theorem dX5_account_40 : decode cX5_account 40 = .ok (.invokevirtual 236, 3) := by decide +kernel
theorem dX5_account_43 : decode cX5_account 43 = .ok (.lconst 0, 1) := by decide +kernel
theorem dX5_account_44 : decode cX5_account 44 = .ok (.lstore_n 2, 1) := by decide +kernel
theorem dX5_account_45 : decode cX5_account 45 = .ok (.iload_n 1, 1) := by decide +kernel
theorem dX5_account_46 : decode cX5_account 46 = .ok (.tableswitch 65 0 2 #[26, 31, 36], 26) := by decide +kernel
theorem dX5_account_72 : decode cX5_account 72 = .ok (.aload_n 0, 1) := by decide +kernel
theorem dX5_account_73 : decode cX5_account 73 = .ok (.invokevirtual 243, 3) := by decide +kernel
theorem dX5_account_76 : decode cX5_account 76 = .ok (.lreturn, 1) := by decide +kernel
theorem dX5_account_77 : decode cX5_account 77 = .ok (.aload_n 0, 1) := by decide +kernel
theorem dX5_account_78 : decode cX5_account 78 = .ok (.invokevirtual 246, 3) := by decide +kernel
theorem dX5_account_81 : decode cX5_account 81 = .ok (.lreturn, 1) := by decide +kernel
theorem dX5_account_82 : decode cX5_account 82 = .ok (.iconst 0, 1) := by decide +kernel
theorem dX5_account_83 : decode cX5_account 83 = .ok (.istore 4, 2) := by decide +kernel
theorem dX5_account_85 : decode cX5_account 85 = .ok (.iload 4, 2) := by decide +kernel
theorem dX5_account_87 : decode cX5_account 87 = .ok (.aload_n 0, 1) := by decide +kernel
theorem dX5_account_88 : decode cX5_account 88 = .ok (.invokevirtual 106, 3) := by decide +kernel
theorem dX5_account_91 : decode cX5_account 91 = .ok (.if_icmp .ge 18, 3) := by decide +kernel
theorem dX5_account_94 : decode cX5_account 94 = .ok (.lload_n 2, 1) := by decide +kernel
theorem dX5_account_95 : decode cX5_account 95 = .ok (.aload_n 0, 1) := by decide +kernel
theorem dX5_account_96 : decode cX5_account 96 = .ok (.iload 4, 2) := by decide +kernel
theorem dX5_account_98 : decode cX5_account 98 = .ok (.invokevirtual 308, 3) := by decide +kernel
theorem dX5_account_101 : decode cX5_account 101 = .ok (.ladd, 1) := by decide +kernel
theorem dX5_account_102 : decode cX5_account 102 = .ok (.lstore_n 2, 1) := by decide +kernel
theorem dX5_account_103 : decode cX5_account 103 = .ok (.iinc 4 1, 3) := by decide +kernel
theorem dX5_account_106 : decode cX5_account 106 = .ok (.goto (-21), 3) := by decide +kernel
theorem dX5_account_109 : decode cX5_account 109 = .ok (.lload_n 2, 1) := by decide +kernel
theorem dX5_account_110 : decode cX5_account 110 = .ok (.lreturn, 1) := by decide +kernel
theorem dX5_account_111 : decode cX5_account 111 = .ok (.iconst 0, 1) := by decide +kernel
theorem dX5_account_112 : decode cX5_account 112 = .ok (.istore 4, 2) := by decide +kernel
theorem dX5_account_114 : decode cX5_account 114 = .ok (.iload 4, 2) := by decide +kernel
theorem dX5_account_116 : decode cX5_account 116 = .ok (.bipush 10, 2) := by decide +kernel
theorem dX5_account_118 : decode cX5_account 118 = .ok (.if_icmp .ge 19, 3) := by decide +kernel
theorem dX5_account_121 : decode cX5_account 121 = .ok (.lload_n 2, 1) := by decide +kernel
theorem dX5_account_122 : decode cX5_account 122 = .ok (.aload_n 0, 1) := by decide +kernel
theorem dX5_account_123 : decode cX5_account 123 = .ok (.getfield 79, 3) := by decide +kernel
theorem dX5_account_126 : decode cX5_account 126 = .ok (.iload 4, 2) := by decide +kernel
theorem dX5_account_128 : decode cX5_account 128 = .ok (.laload, 1) := by decide +kernel
theorem dX5_account_129 : decode cX5_account 129 = .ok (.ladd, 1) := by decide +kernel
theorem dX5_account_130 : decode cX5_account 130 = .ok (.lstore_n 2, 1) := by decide +kernel
theorem dX5_account_131 : decode cX5_account 131 = .ok (.iinc 4 1, 3) := by decide +kernel
theorem dX5_account_134 : decode cX5_account 134 = .ok (.goto (-20), 3) := by decide +kernel
theorem dX5_account_137 : decode cX5_account 137 = .ok (.lload_n 2, 1) := by decide +kernel
theorem dX5_account_138 : decode cX5_account 138 = .ok (.lreturn, 1) := by decide +kernel
theorem dX5_efficiency_0 : decode cX5_efficiency 0 = .ok (.aload_n 0, 1) := by decide +kernel
theorem dX5_efficiency_1 : decode cX5_efficiency 1 = .ok (.iconst 0, 1) := by decide +kernel
theorem dX5_efficiency_2 : decode cX5_efficiency 2 = .ok (.putfield 86, 3) := by decide +kernel
theorem dX5_efficiency_5 : decode cX5_efficiency 5 = .ok (.aload_n 0, 1) := by decide +kernel
theorem dX5_efficiency_6 : decode cX5_efficiency 6 = .ok (.invokevirtual 236, 3) := by decide +kernel
theorem dX5_efficiency_9 : decode cX5_efficiency 9 = .ok (.aload_n 0, 1) := by decide +kernel
theorem dX5_efficiency_10 : decode cX5_efficiency 10 = .ok (.invokevirtual 243, 3) := by decide +kernel
theorem dX5_efficiency_13 : decode cX5_efficiency 13 = .ok (.lconst 0, 1) := by decide +kernel
theorem dX5_efficiency_14 : decode cX5_efficiency 14 = .ok (.lcmp, 1) := by decide +kernel
theorem dX5_efficiency_15 : decode cX5_efficiency 15 = .ok (.ifCond .ne 12, 3) := by decide +kernel
theorem dX5_efficiency_18 : decode cX5_efficiency 18 = .ok (.aload_n 0, 1) := by decide +kernel
theorem dX5_efficiency_19 : decode cX5_efficiency 19 = .ok (.iconst 1, 1) := by decide +kernel
theorem dX5_efficiency_20 : decode cX5_efficiency 20 = .ok (.invokevirtual 92, 3) := by decide +kernel
theorem dX5_efficiency_23 : decode cX5_efficiency 23 = .ok (.i2d, 1) := by decide +kernel
theorem dX5_efficiency_24 : decode cX5_efficiency 24 = .ok (.goto 14, 3) := by decide +kernel
theorem dX5_efficiency_27 : decode cX5_efficiency 27 = .ok (.aload_n 0, 1) := by decide +kernel
theorem dX5_efficiency_28 : decode cX5_efficiency 28 = .ok (.invokevirtual 246, 3) := by decide +kernel
theorem dX5_efficiency_31 : decode cX5_efficiency 31 = .ok (.l2d, 1) := by decide +kernel
theorem dX5_efficiency_32 : decode cX5_efficiency 32 = .ok (.aload_n 0, 1) := by decide +kernel
theorem dX5_efficiency_33 : decode cX5_efficiency 33 = .ok (.invokevirtual 243, 3) := by decide +kernel
theorem dX5_efficiency_36 : decode cX5_efficiency 36 = .ok (.l2d, 1) := by decide +kernel
theorem dX5_efficiency_37 : decode cX5_efficiency 37 = .ok (.ddiv, 1) := by decide +kernel
theorem dX5_efficiency_38 : decode cX5_efficiency 38 = .ok (.dreturn, 1) := by decide +kernel
theorem dX5_returnDegrees_0 : decode cX5_returnDegrees 0 = .ok (.aload_n 0, 1) := by decide +kernel
theorem dX5_returnDegrees_1 : decode cX5_returnDegrees 1 = .ok (.iconst 0, 1) := by decide +kernel
theorem dX5_returnDegrees_2 : decode cX5_returnDegrees 2 = .ok (.putfield 86, 3) := by decide +kernel
theorem dX5_returnDegrees_5 : decode cX5_returnDegrees 5 = .ok (.aload_n 0, 1) := by decide +kernel
theorem dX5_returnDegrees_6 : decode cX5_returnDegrees 6 = .ok (.invokevirtual 236, 3) := by decide +kernel
theorem dX5_returnDegrees_9 : decode cX5_returnDegrees 9 = .ok (.aload_n 0, 1) := by decide +kernel
theorem dX5_returnDegrees_10 : decode cX5_returnDegrees 10 = .ok (.getfield 76, 3) := by decide +kernel
theorem dX5_returnDegrees_13 : decode cX5_returnDegrees 13 = .ok (.iconst 0, 1) := by decide +kernel
theorem dX5_returnDegrees_14 : decode cX5_returnDegrees 14 = .ok (.iaload, 1) := by decide +kernel
theorem dX5_returnDegrees_15 : decode cX5_returnDegrees 15 = .ok (.i2f, 1) := by decide +kernel
theorem dX5_returnDegrees_16 : decode cX5_returnDegrees 16 = .ok (.ldc_w 316, 3) := by decide +kernel
theorem dX5_returnDegrees_19 : decode cX5_returnDegrees 19 = .ok (.fdiv, 1) := by decide +kernel
theorem dX5_returnDegrees_20 : decode cX5_returnDegrees 20 = .ok (.freturn, 1) := by decide +kernel
theorem dX5_count_0 : decode cX5_count 0 = .ok (.aload_n 0, 1) := by decide +kernel
theorem dX5_count_1 : decode cX5_count 1 = .ok (.iconst 0, 1) := by decide +kernel
theorem dX5_count_2 : decode cX5_count 2 = .ok (.putfield 86, 3) := by decide +kernel
theorem dX5_count_5 : decode cX5_count 5 = .ok (.iload_n 1, 1) := by decide +kernel
theorem dX5_count_6 : decode cX5_count 6 = .ok (.tableswitch 102 0 5 #[38, 43, 48, 83, 92, 97], 38) := by decide +kernel
theorem dX5_count_44 : decode cX5_count 44 = .ok (.aload_n 0, 1) := by decide +kernel
theorem dX5_count_45 : decode cX5_count 45 = .ok (.invokevirtual 106, 3) := by decide +kernel
theorem dX5_count_48 : decode cX5_count 48 = .ok (.ireturn, 1) := by decide +kernel
theorem dX5_count_49 : decode cX5_count 49 = .ok (.aload_n 0, 1) := by decide +kernel
theorem dX5_count_50 : decode cX5_count 50 = .ok (.invokevirtual 271, 3) := by decide +kernel
theorem dX5_count_53 : decode cX5_count 53 = .ok (.ireturn, 1) := by decide +kernel
theorem dX5_count_54 : decode cX5_count 54 = .ok (.aload_n 0, 1) := by decide +kernel
theorem dX5_count_55 : decode cX5_count 55 = .ok (.iconst 0, 1) := by decide +kernel
theorem dX5_count_56 : decode cX5_count 56 = .ok (.invokevirtual 117, 3) := by decide +kernel
theorem dX5_count_59 : decode cX5_count 59 = .ok (.iconst 0, 1) := by decide +kernel
theorem dX5_count_60 : decode cX5_count 60 = .ok (.istore_n 2, 1) := by decide +kernel
theorem dX5_count_61 : decode cX5_count 61 = .ok (.iconst 0, 1) := by decide +kernel
theorem dX5_count_62 : decode cX5_count 62 = .ok (.istore_n 3, 1) := by decide +kernel
theorem dX5_count_63 : decode cX5_count 63 = .ok (.iload_n 3, 1) := by decide +kernel
theorem dX5_count_64 : decode cX5_count 64 = .ok (.bipush 10, 2) := by decide +kernel
theorem dX5_count_66 : decode cX5_count 66 = .ok (.if_icmp .ge 21, 3) := by decide +kernel
theorem dX5_count_69 : decode cX5_count 69 = .ok (.aload_n 0, 1) := by decide +kernel
theorem dX5_count_70 : decode cX5_count 70 = .ok (.getfield 42, 3) := by decide +kernel
theorem dX5_count_73 : decode cX5_count 73 = .ok (.iload_n 3, 1) := by decide +kernel
theorem dX5_count_74 : decode cX5_count 74 = .ok (.iaload, 1) := by decide +kernel
theorem dX5_count_75 : decode cX5_count 75 = .ok (.ifCond .lt 6, 3) := by decide +kernel
theorem dX5_count_78 : decode cX5_count 78 = .ok (.iinc 2 1, 3) := by decide +kernel
theorem dX5_count_81 : decode cX5_count 81 = .ok (.iinc 3 1, 3) := by decide +kernel
theorem dX5_count_84 : decode cX5_count 84 = .ok (.goto (-21), 3) := by decide +kernel
theorem dX5_count_87 : decode cX5_count 87 = .ok (.iload_n 2, 1) := by decide +kernel
theorem dX5_count_88 : decode cX5_count 88 = .ok (.ireturn, 1) := by decide +kernel
theorem dX5_count_89 : decode cX5_count 89 = .ok (.aload_n 0, 1) := by decide +kernel
theorem dX5_count_90 : decode cX5_count 90 = .ok (.invokevirtual 197, 3) := by decide +kernel
theorem dX5_count_93 : decode cX5_count 93 = .ok (.aload_n 0, 1) := by decide +kernel
theorem dX5_count_94 : decode cX5_count 94 = .ok (.getfield 121, 3) := by decide +kernel
theorem dX5_count_97 : decode cX5_count 97 = .ok (.ireturn, 1) := by decide +kernel
theorem dX5_count_98 : decode cX5_count 98 = .ok (.aload_n 0, 1) := by decide +kernel
theorem dX5_count_99 : decode cX5_count 99 = .ok (.getfield 255, 3) := by decide +kernel
theorem dX5_count_102 : decode cX5_count 102 = .ok (.ireturn, 1) := by decide +kernel
theorem dX5_count_103 : decode cX5_count 103 = .ok (.aload_n 0, 1) := by decide +kernel
theorem dX5_count_104 : decode cX5_count 104 = .ok (.getfield 280, 3) := by decide +kernel
theorem dX5_count_107 : decode cX5_count 107 = .ok (.ireturn, 1) := by decide +kernel
theorem dX5_count_108 : decode cX5_count 108 = .ok (.aload_n 0, 1) := by decide +kernel
theorem dX5_count_109 : decode cX5_count 109 = .ok (.iconst 1, 1) := by decide +kernel
theorem dX5_count_110 : decode cX5_count 110 = .ok (.invokevirtual 92, 3) := by decide +kernel
theorem dX5_count_113 : decode cX5_count 113 = .ok (.ireturn, 1) := by decide +kernel
theorem dX5_undo_0 : decode cX5_undo 0 = .ok (.aload_n 0, 1) := by decide +kernel
theorem dX5_undo_1 : decode cX5_undo 1 = .ok (.iconst 0, 1) := by decide +kernel
theorem dX5_undo_2 : decode cX5_undo 2 = .ok (.putfield 86, 3) := by decide +kernel
theorem dX5_undo_5 : decode cX5_undo 5 = .ok (.aload_n 0, 1) := by decide +kernel
theorem dX5_undo_6 : decode cX5_undo 6 = .ok (.getfield 255, 3) := by decide +kernel
theorem dX5_undo_9 : decode cX5_undo 9 = .ok (.ifCond .ne 9, 3) := by decide +kernel
theorem dX5_undo_12 : decode cX5_undo 12 = .ok (.aload_n 0, 1) := by decide +kernel
theorem dX5_undo_13 : decode cX5_undo 13 = .ok (.iconst 1, 1) := by decide +kernel
theorem dX5_undo_14 : decode cX5_undo 14 = .ok (.invokevirtual 92, 3) := by decide +kernel
theorem dX5_undo_17 : decode cX5_undo 17 = .ok (.ireturn, 1) := by decide +kernel
theorem dX5_undo_18 : decode cX5_undo 18 = .ok (.aload_n 0, 1) := by decide +kernel
theorem dX5_undo_19 : decode cX5_undo 19 = .ok (.dup, 1) := by decide +kernel
theorem dX5_undo_20 : decode cX5_undo 20 = .ok (.getfield 255, 3) := by decide +kernel
theorem dX5_undo_23 : decode cX5_undo 23 = .ok (.iconst 1, 1) := by decide +kernel
theorem dX5_undo_24 : decode cX5_undo 24 = .ok (.isub, 1) := by decide +kernel
theorem dX5_undo_25 : decode cX5_undo 25 = .ok (.putfield 255, 3) := by decide +kernel
theorem dX5_undo_28 : decode cX5_undo 28 = .ok (.iconst 0, 1) := by decide +kernel
theorem dX5_undo_29 : decode cX5_undo 29 = .ok (.istore_n 1, 1) := by decide +kernel
theorem dX5_undo_30 : decode cX5_undo 30 = .ok (.iload_n 1, 1) := by decide +kernel
theorem dX5_undo_31 : decode cX5_undo 31 = .ok (.bipush 108, 2) := by decide +kernel
theorem dX5_undo_33 : decode cX5_undo 33 = .ok (.if_icmp .ge 29, 3) := by decide +kernel
theorem dX5_undo_36 : decode cX5_undo 36 = .ok (.aload_n 0, 1) := by decide +kernel
theorem dX5_undo_37 : decode cX5_undo 37 = .ok (.getfield 9, 3) := by decide +kernel
theorem dX5_undo_40 : decode cX5_undo 40 = .ok (.iload_n 1, 1) := by decide +kernel
theorem dX5_undo_41 : decode cX5_undo 41 = .ok (.aload_n 0, 1) := by decide +kernel
theorem dX5_undo_42 : decode cX5_undo 42 = .ok (.getfield 17, 3) := by decide +kernel
theorem dX5_undo_45 : decode cX5_undo 45 = .ok (.bipush 108, 2) := by decide +kernel
theorem dX5_undo_47 : decode cX5_undo 47 = .ok (.aload_n 0, 1) := by decide +kernel
theorem dX5_undo_48 : decode cX5_undo 48 = .ok (.getfield 255, 3) := by decide +kernel
theorem dX5_undo_51 : decode cX5_undo 51 = .ok (.imul, 1) := by decide +kernel
theorem dX5_undo_52 : decode cX5_undo 52 = .ok (.iload_n 1, 1) := by decide +kernel
theorem dX5_undo_53 : decode cX5_undo 53 = .ok (.iadd, 1) := by decide +kernel
theorem dX5_undo_54 : decode cX5_undo 54 = .ok (.iaload, 1) := by decide +kernel
theorem dX5_undo_55 : decode cX5_undo 55 = .ok (.iastore, 1) := by decide +kernel
theorem dX5_undo_56 : decode cX5_undo 56 = .ok (.iinc 1 1, 3) := by decide +kernel
theorem dX5_undo_59 : decode cX5_undo 59 = .ok (.goto (-29), 3) := by decide +kernel
theorem dX5_undo_62 : decode cX5_undo 62 = .ok (.iconst 0, 1) := by decide +kernel
theorem dX5_undo_63 : decode cX5_undo 63 = .ok (.istore_n 1, 1) := by decide +kernel
theorem dX5_undo_64 : decode cX5_undo 64 = .ok (.iload_n 1, 1) := by decide +kernel
theorem dX5_undo_65 : decode cX5_undo 65 = .ok (.bipush 34, 2) := by decide +kernel
theorem dX5_undo_67 : decode cX5_undo 67 = .ok (.if_icmp .ge 29, 3) := by decide +kernel
theorem dX5_undo_70 : decode cX5_undo 70 = .ok (.aload_n 0, 1) := by decide +kernel
theorem dX5_undo_71 : decode cX5_undo 71 = .ok (.getfield 13, 3) := by decide +kernel
theorem dX5_undo_74 : decode cX5_undo 74 = .ok (.iload_n 1, 1) := by decide +kernel
theorem dX5_undo_75 : decode cX5_undo 75 = .ok (.aload_n 0, 1) := by decide +kernel
theorem dX5_undo_76 : decode cX5_undo 76 = .ok (.getfield 20, 3) := by decide +kernel
theorem dX5_undo_79 : decode cX5_undo 79 = .ok (.bipush 34, 2) := by decide +kernel
theorem dX5_undo_81 : decode cX5_undo 81 = .ok (.aload_n 0, 1) := by decide +kernel
theorem dX5_undo_82 : decode cX5_undo 82 = .ok (.getfield 255, 3) := by decide +kernel
theorem dX5_undo_85 : decode cX5_undo 85 = .ok (.imul, 1) := by decide +kernel
theorem dX5_undo_86 : decode cX5_undo 86 = .ok (.iload_n 1, 1) := by decide +kernel
theorem dX5_undo_87 : decode cX5_undo 87 = .ok (.iadd, 1) := by decide +kernel
theorem dX5_undo_88 : decode cX5_undo 88 = .ok (.laload, 1) := by decide +kernel
theorem dX5_undo_89 : decode cX5_undo 89 = .ok (.lastore, 1) := by decide +kernel
theorem dX5_undo_90 : decode cX5_undo 90 = .ok (.iinc 1 1, 3) := by decide +kernel
theorem dX5_undo_93 : decode cX5_undo 93 = .ok (.goto (-29), 3) := by decide +kernel
theorem dX5_undo_96 : decode cX5_undo 96 = .ok (.aload_n 0, 1) := by decide +kernel
theorem dX5_undo_97 : decode cX5_undo 97 = .ok (.getfield 255, 3) := by decide +kernel
theorem dX5_undo_100 : decode cX5_undo 100 = .ok (.ireturn, 1) := by decide +kernel
theorem dX5_save_0 : decode cX5_save 0 = .ok (.aload_n 0, 1) := by decide +kernel
theorem dX5_save_1 : decode cX5_save 1 = .ok (.iconst 0, 1) := by decide +kernel
theorem dX5_save_2 : decode cX5_save 2 = .ok (.putfield 86, 3) := by decide +kernel
theorem dX5_save_5 : decode cX5_save 5 = .ok (.aload_n 0, 1) := by decide +kernel
theorem dX5_save_6 : decode cX5_save 6 = .ok (.iconst 1, 1) := by decide +kernel
theorem dX5_save_7 : decode cX5_save 7 = .ok (.putfield 317, 3) := by decide +kernel
theorem dX5_save_10 : decode cX5_save 10 = .ok (.iconst 0, 1) := by decide +kernel
theorem dX5_save_11 : decode cX5_save 11 = .ok (.istore_n 1, 1) := by decide +kernel
theorem dX5_save_12 : decode cX5_save 12 = .ok (.iload_n 1, 1) := by decide +kernel
theorem dX5_save_13 : decode cX5_save 13 = .ok (.bipush 108, 2) := by decide +kernel
theorem dX5_save_15 : decode cX5_save 15 = .ok (.if_icmp .ge 21, 3) := by decide +kernel
theorem dX5_save_18 : decode cX5_save 18 = .ok (.aload_n 0, 1) := by decide +kernel
theorem dX5_save_19 : decode cX5_save 19 = .ok (.getfield 23, 3) := by decide +kernel
theorem dX5_save_22 : decode cX5_save 22 = .ok (.iload_n 1, 1) := by decide +kernel
theorem dX5_save_23 : decode cX5_save 23 = .ok (.aload_n 0, 1) := by decide +kernel
theorem dX5_save_24 : decode cX5_save 24 = .ok (.getfield 9, 3) := by decide +kernel
theorem dX5_save_27 : decode cX5_save 27 = .ok (.iload_n 1, 1) := by decide +kernel
theorem dX5_save_28 : decode cX5_save 28 = .ok (.iaload, 1) := by decide +kernel
theorem dX5_save_29 : decode cX5_save 29 = .ok (.iastore, 1) := by decide +kernel
theorem dX5_save_30 : decode cX5_save 30 = .ok (.iinc 1 1, 3) := by decide +kernel
theorem dX5_save_33 : decode cX5_save 33 = .ok (.goto (-21), 3) := by decide +kernel
theorem dX5_save_36 : decode cX5_save 36 = .ok (.iconst 0, 1) := by decide +kernel
theorem dX5_save_37 : decode cX5_save 37 = .ok (.istore_n 1, 1) := by decide +kernel
theorem dX5_save_38 : decode cX5_save 38 = .ok (.iload_n 1, 1) := by decide +kernel
theorem dX5_save_39 : decode cX5_save 39 = .ok (.bipush 34, 2) := by decide +kernel
theorem dX5_save_41 : decode cX5_save 41 = .ok (.if_icmp .ge 21, 3) := by decide +kernel
theorem dX5_save_44 : decode cX5_save 44 = .ok (.aload_n 0, 1) := by decide +kernel
theorem dX5_save_45 : decode cX5_save 45 = .ok (.getfield 26, 3) := by decide +kernel
theorem dX5_save_48 : decode cX5_save 48 = .ok (.iload_n 1, 1) := by decide +kernel
theorem dX5_save_49 : decode cX5_save 49 = .ok (.aload_n 0, 1) := by decide +kernel
theorem dX5_save_50 : decode cX5_save 50 = .ok (.getfield 13, 3) := by decide +kernel
theorem dX5_save_53 : decode cX5_save 53 = .ok (.iload_n 1, 1) := by decide +kernel
theorem dX5_save_54 : decode cX5_save 54 = .ok (.laload, 1) := by decide +kernel
theorem dX5_save_55 : decode cX5_save 55 = .ok (.lastore, 1) := by decide +kernel
theorem dX5_save_56 : decode cX5_save 56 = .ok (.iinc 1 1, 3) := by decide +kernel
theorem dX5_save_59 : decode cX5_save 59 = .ok (.goto (-21), 3) := by decide +kernel
theorem dX5_save_62 : decode cX5_save 62 = .ok (.aload_n 0, 1) := by decide +kernel
theorem dX5_save_63 : decode cX5_save 63 = .ok (.invokevirtual 106, 3) := by decide +kernel
theorem dX5_save_66 : decode cX5_save 66 = .ok (.ireturn, 1) := by decide +kernel
theorem dX5_restore_0 : decode cX5_restore 0 = .ok (.aload_n 0, 1) := by decide +kernel
theorem dX5_restore_1 : decode cX5_restore 1 = .ok (.iconst 0, 1) := by decide +kernel
theorem dX5_restore_2 : decode cX5_restore 2 = .ok (.putfield 86, 3) := by decide +kernel
theorem dX5_restore_5 : decode cX5_restore 5 = .ok (.aload_n 0, 1) := by decide +kernel
theorem dX5_restore_6 : decode cX5_restore 6 = .ok (.getfield 317, 3) := by decide +kernel
theorem dX5_restore_9 : decode cX5_restore 9 = .ok (.ifCond .ne 9, 3) := by decide +kernel
theorem dX5_restore_12 : decode cX5_restore 12 = .ok (.aload_n 0, 1) := by decide +kernel
theorem dX5_restore_13 : decode cX5_restore 13 = .ok (.iconst 1, 1) := by decide +kernel
theorem dX5_restore_14 : decode cX5_restore 14 = .ok (.invokevirtual 92, 3) := by decide +kernel
theorem dX5_restore_17 : decode cX5_restore 17 = .ok (.ireturn, 1) := by decide +kernel
theorem dX5_restore_18 : decode cX5_restore 18 = .ok (.iconst 0, 1) := by decide +kernel
theorem dX5_restore_19 : decode cX5_restore 19 = .ok (.istore_n 1, 1) := by decide +kernel
theorem dX5_restore_20 : decode cX5_restore 20 = .ok (.iload_n 1, 1) := by decide +kernel
theorem dX5_restore_21 : decode cX5_restore 21 = .ok (.bipush 108, 2) := by decide +kernel
theorem dX5_restore_23 : decode cX5_restore 23 = .ok (.if_icmp .ge 21, 3) := by decide +kernel
theorem dX5_restore_26 : decode cX5_restore 26 = .ok (.aload_n 0, 1) := by decide +kernel
theorem dX5_restore_27 : decode cX5_restore 27 = .ok (.getfield 9, 3) := by decide +kernel
theorem dX5_restore_30 : decode cX5_restore 30 = .ok (.iload_n 1, 1) := by decide +kernel
theorem dX5_restore_31 : decode cX5_restore 31 = .ok (.aload_n 0, 1) := by decide +kernel
theorem dX5_restore_32 : decode cX5_restore 32 = .ok (.getfield 23, 3) := by decide +kernel
theorem dX5_restore_35 : decode cX5_restore 35 = .ok (.iload_n 1, 1) := by decide +kernel
theorem dX5_restore_36 : decode cX5_restore 36 = .ok (.iaload, 1) := by decide +kernel
theorem dX5_restore_37 : decode cX5_restore 37 = .ok (.iastore, 1) := by decide +kernel
theorem dX5_restore_38 : decode cX5_restore 38 = .ok (.iinc 1 1, 3) := by decide +kernel
theorem dX5_restore_41 : decode cX5_restore 41 = .ok (.goto (-21), 3) := by decide +kernel
theorem dX5_restore_44 : decode cX5_restore 44 = .ok (.iconst 0, 1) := by decide +kernel
theorem dX5_restore_45 : decode cX5_restore 45 = .ok (.istore_n 1, 1) := by decide +kernel
theorem dX5_restore_46 : decode cX5_restore 46 = .ok (.iload_n 1, 1) := by decide +kernel
theorem dX5_restore_47 : decode cX5_restore 47 = .ok (.bipush 34, 2) := by decide +kernel
theorem dX5_restore_49 : decode cX5_restore 49 = .ok (.if_icmp .ge 21, 3) := by decide +kernel
theorem dX5_restore_52 : decode cX5_restore 52 = .ok (.aload_n 0, 1) := by decide +kernel
theorem dX5_restore_53 : decode cX5_restore 53 = .ok (.getfield 13, 3) := by decide +kernel
theorem dX5_restore_56 : decode cX5_restore 56 = .ok (.iload_n 1, 1) := by decide +kernel
theorem dX5_restore_57 : decode cX5_restore 57 = .ok (.aload_n 0, 1) := by decide +kernel
theorem dX5_restore_58 : decode cX5_restore 58 = .ok (.getfield 26, 3) := by decide +kernel
theorem dX5_restore_61 : decode cX5_restore 61 = .ok (.iload_n 1, 1) := by decide +kernel
theorem dX5_restore_62 : decode cX5_restore 62 = .ok (.laload, 1) := by decide +kernel
theorem dX5_restore_63 : decode cX5_restore 63 = .ok (.lastore, 1) := by decide +kernel
theorem dX5_restore_64 : decode cX5_restore 64 = .ok (.iinc 1 1, 3) := by decide +kernel
theorem dX5_restore_67 : decode cX5_restore 67 = .ok (.goto (-21), 3) := by decide +kernel
theorem dX5_restore_70 : decode cX5_restore 70 = .ok (.aload_n 0, 1) := by decide +kernel
theorem dX5_restore_71 : decode cX5_restore 71 = .ok (.iconst 0, 1) := by decide +kernel
theorem dX5_restore_72 : decode cX5_restore 72 = .ok (.putfield 255, 3) := by decide +kernel
theorem dX5_restore_75 : decode cX5_restore 75 = .ok (.aload_n 0, 1) := by decide +kernel
theorem dX5_restore_76 : decode cX5_restore 76 = .ok (.invokevirtual 106, 3) := by decide +kernel
theorem dX5_restore_79 : decode cX5_restore 79 = .ok (.ireturn, 1) := by decide +kernel
