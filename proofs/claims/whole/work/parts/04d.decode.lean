theorem dX11_readsLine_21 : decode cX11_readsLine 21 = .ok (.ifCond .eq 7, 3) := by decide +kernel
theorem dX11_readsLine_24 : decode cX11_readsLine 24 = .ok (.iconst 1, 1) := by decide +kernel
theorem dX11_readsLine_25 : decode cX11_readsLine 25 = .ok (.goto 32, 3) := by decide +kernel
theorem dX11_readsLine_28 : decode cX11_readsLine 28 = .ok (.aload_n 0, 1) := by decide +kernel
theorem dX11_readsLine_29 : decode cX11_readsLine 29 = .ok (.ldc2_w 249, 3) := by decide +kernel
theorem dX11_readsLine_32 : decode cX11_readsLine 32 = .ok (.invokevirtual 200, 3) := by decide +kernel
theorem dX11_readsLine_35 : decode cX11_readsLine 35 = .ok (.ifCond .eq 7, 3) := by decide +kernel
theorem dX11_readsLine_38 : decode cX11_readsLine 38 = .ok (.iconst 2, 1) := by decide +kernel
theorem dX11_readsLine_39 : decode cX11_readsLine 39 = .ok (.goto 18, 3) := by decide +kernel
theorem dX11_readsLine_42 : decode cX11_readsLine 42 = .ok (.aload_n 0, 1) := by decide +kernel
theorem dX11_readsLine_43 : decode cX11_readsLine 43 = .ok (.ldc2_w 251, 3) := by decide +kernel
theorem dX11_readsLine_46 : decode cX11_readsLine 46 = .ok (.invokevirtual 200, 3) := by decide +kernel
theorem dX11_readsLine_49 : decode cX11_readsLine 49 = .ok (.ifCond .eq 7, 3) := by decide +kernel
theorem dX11_readsLine_52 : decode cX11_readsLine 52 = .ok (.iconst 3, 1) := by decide +kernel
theorem dX11_readsLine_53 : decode cX11_readsLine 53 = .ok (.goto 4, 3) := by decide +kernel
theorem dX11_readsLine_56 : decode cX11_readsLine 56 = .ok (.iconst (-1), 1) := by decide +kernel
theorem dX11_readsLine_57 : decode cX11_readsLine 57 = .ok (.istore_n 1, 1) := by decide +kernel
theorem dX11_readsLine_58 : decode cX11_readsLine 58 = .ok (.iload_n 1, 1) := by decide +kernel
theorem dX11_readsLine_59 : decode cX11_readsLine 59 = .ok (.ifCond .ge 9, 3) := by decide +kernel
theorem dX11_readsLine_62 : decode cX11_readsLine 62 = .ok (.aload_n 0, 1) := by decide +kernel
theorem dX11_readsLine_63 : decode cX11_readsLine 63 = .ok (.iconst 1, 1) := by decide +kernel
theorem dX11_readsLine_64 : decode cX11_readsLine 64 = .ok (.invokevirtual 208, 3) := by decide +kernel
theorem dX11_readsLine_67 : decode cX11_readsLine 67 = .ok (.ireturn, 1) := by decide +kernel
theorem dX11_readsLine_68 : decode cX11_readsLine 68 = .ok (.aload_n 0, 1) := by decide +kernel
theorem dX11_readsLine_69 : decode cX11_readsLine 69 = .ok (.getfield 90, 3) := by decide +kernel
theorem dX11_readsLine_72 : decode cX11_readsLine 72 = .ok (.iconst 5, 1) := by decide +kernel
theorem dX11_readsLine_73 : decode cX11_readsLine 73 = .ok (.iaload, 1) := by decide +kernel
theorem dX11_readsLine_74 : decode cX11_readsLine 74 = .ok (.bipush 40, 2) := by decide +kernel
theorem dX11_readsLine_76 : decode cX11_readsLine 76 = .ok (.if_icmp .ne 9, 3) := by decide +kernel
theorem dX11_readsLine_79 : decode cX11_readsLine 79 = .ok (.aload_n 0, 1) := by decide +kernel
theorem dX11_readsLine_80 : decode cX11_readsLine 80 = .ok (.iconst 5, 1) := by decide +kernel
theorem dX11_readsLine_81 : decode cX11_readsLine 81 = .ok (.invokevirtual 208, 3) := by decide +kernel
theorem dX11_readsLine_84 : decode cX11_readsLine 84 = .ok (.ireturn, 1) := by decide +kernel
theorem dX11_readsLine_85 : decode cX11_readsLine 85 = .ok (.aload_n 0, 1) := by decide +kernel
theorem dX11_readsLine_86 : decode cX11_readsLine 86 = .ok (.invokevirtual 215, 3) := by decide +kernel
theorem dX11_readsLine_89 : decode cX11_readsLine 89 = .ok (.sipush 200, 3) := by decide +kernel
theorem dX11_readsLine_92 : decode cX11_readsLine 92 = .ok (.aload_n 0, 1) := by decide +kernel
theorem dX11_readsLine_93 : decode cX11_readsLine 93 = .ok (.getfield 90, 3) := by decide +kernel
theorem dX11_readsLine_96 : decode cX11_readsLine 96 = .ok (.iconst 5, 1) := by decide +kernel
theorem dX11_readsLine_97 : decode cX11_readsLine 97 = .ok (.iaload, 1) := by decide +kernel
theorem dX11_readsLine_98 : decode cX11_readsLine 98 = .ok (.iadd, 1) := by decide +kernel
theorem dX11_readsLine_99 : decode cX11_readsLine 99 = .ok (.istore_n 2, 1) := by decide +kernel
theorem dX11_readsLine_100 : decode cX11_readsLine 100 = .ok (.aload_n 0, 1) := by decide +kernel
theorem dX11_readsLine_101 : decode cX11_readsLine 101 = .ok (.getfield 93, 3) := by decide +kernel
theorem dX11_readsLine_104 : decode cX11_readsLine 104 = .ok (.iload_n 2, 1) := by decide +kernel
theorem dX11_readsLine_105 : decode cX11_readsLine 105 = .ok (.iload_n 1, 1) := by decide +kernel
theorem dX11_readsLine_106 : decode cX11_readsLine 106 = .ok (.iastore, 1) := by decide +kernel
theorem dX11_readsLine_107 : decode cX11_readsLine 107 = .ok (.iload_n 1, 1) := by decide +kernel
theorem dX11_readsLine_108 : decode cX11_readsLine 108 = .ok (.ifCond .ne 22, 3) := by decide +kernel
theorem dX11_readsLine_111 : decode cX11_readsLine 111 = .ok (.aload_n 0, 1) := by decide +kernel
theorem dX11_readsLine_112 : decode cX11_readsLine 112 = .ok (.invokevirtual 331, 3) := by decide +kernel
theorem dX11_readsLine_115 : decode cX11_readsLine 115 = .ok (.ifCond .ne 5, 3) := by decide +kernel
theorem dX11_readsLine_118 : decode cX11_readsLine 118 = .ok (.iconst 0, 1) := by decide +kernel
theorem dX11_readsLine_119 : decode cX11_readsLine 119 = .ok (.ireturn, 1) := by decide +kernel
theorem dX11_readsLine_120 : decode cX11_readsLine 120 = .ok (.aload_n 0, 1) := by decide +kernel
theorem dX11_readsLine_121 : decode cX11_readsLine 121 = .ok (.getfield 96, 3) := by decide +kernel
theorem dX11_readsLine_124 : decode cX11_readsLine 124 = .ok (.iload_n 2, 1) := by decide +kernel
theorem dX11_readsLine_125 : decode cX11_readsLine 125 = .ok (.aload_n 0, 1) := by decide +kernel
theorem dX11_readsLine_126 : decode cX11_readsLine 126 = .ok (.getfield 269, 3) := by decide +kernel
theorem dX11_readsLine_129 : decode cX11_readsLine 129 = .ok (.iastore, 1) := by decide +kernel
theorem dX11_readsLine_130 : decode cX11_readsLine 130 = .ok (.iload_n 1, 1) := by decide +kernel
theorem dX11_readsLine_131 : decode cX11_readsLine 131 = .ok (.iconst 3, 1) := by decide +kernel
theorem dX11_readsLine_132 : decode cX11_readsLine 132 = .ok (.if_icmp .eq 23, 3) := by decide +kernel
theorem dX11_readsLine_135 : decode cX11_readsLine 135 = .ok (.aload_n 0, 1) := by decide +kernel
theorem dX11_readsLine_136 : decode cX11_readsLine 136 = .ok (.iconst 0, 1) := by decide +kernel
theorem dX11_readsLine_137 : decode cX11_readsLine 137 = .ok (.invokevirtual 299, 3) := by decide +kernel
theorem dX11_readsLine_140 : decode cX11_readsLine 140 = .ok (.ifCond .ne 5, 3) := by decide +kernel
theorem dX11_readsLine_143 : decode cX11_readsLine 143 = .ok (.iconst 0, 1) := by decide +kernel
theorem dX11_readsLine_144 : decode cX11_readsLine 144 = .ok (.ireturn, 1) := by decide +kernel
theorem dX11_readsLine_145 : decode cX11_readsLine 145 = .ok (.aload_n 0, 1) := by decide +kernel
theorem dX11_readsLine_146 : decode cX11_readsLine 146 = .ok (.getfield 99, 3) := by decide +kernel
theorem dX11_readsLine_149 : decode cX11_readsLine 149 = .ok (.iload_n 2, 1) := by decide +kernel
theorem dX11_readsLine_150 : decode cX11_readsLine 150 = .ok (.aload_n 0, 1) := by decide +kernel
theorem dX11_readsLine_151 : decode cX11_readsLine 151 = .ok (.getfield 269, 3) := by decide +kernel
theorem dX11_readsLine_154 : decode cX11_readsLine 154 = .ok (.iastore, 1) := by decide +kernel
theorem dX11_readsLine_155 : decode cX11_readsLine 155 = .ok (.iload_n 1, 1) := by decide +kernel
theorem dX11_readsLine_156 : decode cX11_readsLine 156 = .ok (.ifCond .ne 24, 3) := by decide +kernel
theorem dX11_readsLine_159 : decode cX11_readsLine 159 = .ok (.aload_n 0, 1) := by decide +kernel
theorem dX11_readsLine_160 : decode cX11_readsLine 160 = .ok (.iconst 0, 1) := by decide +kernel
theorem dX11_readsLine_161 : decode cX11_readsLine 161 = .ok (.iconst 5, 1) := by decide +kernel
theorem dX11_readsLine_162 : decode cX11_readsLine 162 = .ok (.invokevirtual 272, 3) := by decide +kernel
theorem dX11_readsLine_165 : decode cX11_readsLine 165 = .ok (.ifCond .ne 5, 3) := by decide +kernel
theorem dX11_readsLine_168 : decode cX11_readsLine 168 = .ok (.iconst 0, 1) := by decide +kernel
theorem dX11_readsLine_169 : decode cX11_readsLine 169 = .ok (.ireturn, 1) := by decide +kernel
theorem dX11_readsLine_170 : decode cX11_readsLine 170 = .ok (.aload_n 0, 1) := by decide +kernel
theorem dX11_readsLine_171 : decode cX11_readsLine 171 = .ok (.getfield 102, 3) := by decide +kernel
theorem dX11_readsLine_174 : decode cX11_readsLine 174 = .ok (.iload_n 2, 1) := by decide +kernel
theorem dX11_readsLine_175 : decode cX11_readsLine 175 = .ok (.aload_n 0, 1) := by decide +kernel
theorem dX11_readsLine_176 : decode cX11_readsLine 176 = .ok (.getfield 269, 3) := by decide +kernel
theorem dX11_readsLine_179 : decode cX11_readsLine 179 = .ok (.iastore, 1) := by decide +kernel
theorem dX11_readsLine_180 : decode cX11_readsLine 180 = .ok (.aload_n 0, 1) := by decide +kernel
theorem dX11_readsLine_181 : decode cX11_readsLine 181 = .ok (.getfield 90, 3) := by decide +kernel
theorem dX11_readsLine_184 : decode cX11_readsLine 184 = .ok (.iconst 5, 1) := by decide +kernel
theorem dX11_readsLine_185 : decode cX11_readsLine 185 = .ok (.dup2, 1) := by decide +kernel
theorem dX11_readsLine_186 : decode cX11_readsLine 186 = .ok (.iaload, 1) := by decide +kernel
theorem dX11_readsLine_187 : decode cX11_readsLine 187 = .ok (.iconst 1, 1) := by decide +kernel
theorem dX11_readsLine_188 : decode cX11_readsLine 188 = .ok (.iadd, 1) := by decide +kernel
theorem dX11_readsLine_189 : decode cX11_readsLine 189 = .ok (.iastore, 1) := by decide +kernel
theorem dX11_readsLine_190 : decode cX11_readsLine 190 = .ok (.aload_n 0, 1) := by decide +kernel
theorem dX11_readsLine_191 : decode cX11_readsLine 191 = .ok (.invokevirtual 296, 3) := by decide +kernel
theorem dX11_readsLine_194 : decode cX11_readsLine 194 = .ok (.ireturn, 1) := by decide +kernel
theorem dX11_laysLines_0 : decode cX11_laysLines 0 = .ok (.aload_n 0, 1) := by decide +kernel
theorem dX11_laysLines_1 : decode cX11_laysLines 1 = .ok (.getfield 90, 3) := by decide +kernel
theorem dX11_laysLines_4 : decode cX11_laysLines 4 = .ok (.iload_n 2, 1) := by decide +kernel
theorem dX11_laysLines_5 : decode cX11_laysLines 5 = .ok (.aload_n 0, 1) := by decide +kernel
theorem dX11_laysLines_6 : decode cX11_laysLines 6 = .ok (.getfield 90, 3) := by decide +kernel
theorem dX11_laysLines_9 : decode cX11_laysLines 9 = .ok (.iload_n 1, 1) := by decide +kernel
theorem dX11_laysLines_10 : decode cX11_laysLines 10 = .ok (.iaload, 1) := by decide +kernel
theorem dX11_laysLines_11 : decode cX11_laysLines 11 = .ok (.iastore, 1) := by decide +kernel
theorem dX11_laysLines_12 : decode cX11_laysLines 12 = .ok (.iconst 0, 1) := by decide +kernel
theorem dX11_laysLines_13 : decode cX11_laysLines 13 = .ok (.istore_n 3, 1) := by decide +kernel
theorem dX11_laysLines_14 : decode cX11_laysLines 14 = .ok (.iload_n 3, 1) := by decide +kernel
theorem dX11_laysLines_15 : decode cX11_laysLines 15 = .ok (.bipush 40, 2) := by decide +kernel
theorem dX11_laysLines_17 : decode cX11_laysLines 17 = .ok (.if_icmp .ge 97, 3) := by decide +kernel
theorem dX11_laysLines_20 : decode cX11_laysLines 20 = .ok (.aload_n 0, 1) := by decide +kernel
theorem dX11_laysLines_21 : decode cX11_laysLines 21 = .ok (.getfield 93, 3) := by decide +kernel
theorem dX11_laysLines_24 : decode cX11_laysLines 24 = .ok (.bipush 40, 2) := by decide +kernel
theorem dX11_laysLines_26 : decode cX11_laysLines 26 = .ok (.iload_n 2, 1) := by decide +kernel
theorem dX11_laysLines_27 : decode cX11_laysLines 27 = .ok (.imul, 1) := by decide +kernel
theorem dX11_laysLines_28 : decode cX11_laysLines 28 = .ok (.iload_n 3, 1) := by decide +kernel
theorem dX11_laysLines_29 : decode cX11_laysLines 29 = .ok (.iadd, 1) := by decide +kernel
theorem dX11_laysLines_30 : decode cX11_laysLines 30 = .ok (.aload_n 0, 1) := by decide +kernel
theorem dX11_laysLines_31 : decode cX11_laysLines 31 = .ok (.getfield 93, 3) := by decide +kernel
theorem dX11_laysLines_34 : decode cX11_laysLines 34 = .ok (.bipush 40, 2) := by decide +kernel
theorem dX11_laysLines_36 : decode cX11_laysLines 36 = .ok (.iload_n 1, 1) := by decide +kernel
theorem dX11_laysLines_37 : decode cX11_laysLines 37 = .ok (.imul, 1) := by decide +kernel
theorem dX11_laysLines_38 : decode cX11_laysLines 38 = .ok (.iload_n 3, 1) := by decide +kernel
theorem dX11_laysLines_39 : decode cX11_laysLines 39 = .ok (.iadd, 1) := by decide +kernel
theorem dX11_laysLines_40 : decode cX11_laysLines 40 = .ok (.iaload, 1) := by decide +kernel
theorem dX11_laysLines_41 : decode cX11_laysLines 41 = .ok (.iastore, 1) := by decide +kernel
theorem dX11_laysLines_42 : decode cX11_laysLines 42 = .ok (.aload_n 0, 1) := by decide +kernel
theorem dX11_laysLines_43 : decode cX11_laysLines 43 = .ok (.getfield 96, 3) := by decide +kernel
theorem dX11_laysLines_46 : decode cX11_laysLines 46 = .ok (.bipush 40, 2) := by decide +kernel
theorem dX11_laysLines_48 : decode cX11_laysLines 48 = .ok (.iload_n 2, 1) := by decide +kernel
theorem dX11_laysLines_49 : decode cX11_laysLines 49 = .ok (.imul, 1) := by decide +kernel
theorem dX11_laysLines_50 : decode cX11_laysLines 50 = .ok (.iload_n 3, 1) := by decide +kernel
theorem dX11_laysLines_51 : decode cX11_laysLines 51 = .ok (.iadd, 1) := by decide +kernel
theorem dX11_laysLines_52 : decode cX11_laysLines 52 = .ok (.aload_n 0, 1) := by decide +kernel
theorem dX11_laysLines_53 : decode cX11_laysLines 53 = .ok (.getfield 96, 3) := by decide +kernel
theorem dX11_laysLines_56 : decode cX11_laysLines 56 = .ok (.bipush 40, 2) := by decide +kernel
theorem dX11_laysLines_58 : decode cX11_laysLines 58 = .ok (.iload_n 1, 1) := by decide +kernel
theorem dX11_laysLines_59 : decode cX11_laysLines 59 = .ok (.imul, 1) := by decide +kernel
theorem dX11_laysLines_60 : decode cX11_laysLines 60 = .ok (.iload_n 3, 1) := by decide +kernel
theorem dX11_laysLines_61 : decode cX11_laysLines 61 = .ok (.iadd, 1) := by decide +kernel
theorem dX11_laysLines_62 : decode cX11_laysLines 62 = .ok (.iaload, 1) := by decide +kernel
theorem dX11_laysLines_63 : decode cX11_laysLines 63 = .ok (.iastore, 1) := by decide +kernel
theorem dX11_laysLines_64 : decode cX11_laysLines 64 = .ok (.aload_n 0, 1) := by decide +kernel
theorem dX11_laysLines_65 : decode cX11_laysLines 65 = .ok (.getfield 99, 3) := by decide +kernel
theorem dX11_laysLines_68 : decode cX11_laysLines 68 = .ok (.bipush 40, 2) := by decide +kernel
theorem dX11_laysLines_70 : decode cX11_laysLines 70 = .ok (.iload_n 2, 1) := by decide +kernel
theorem dX11_laysLines_71 : decode cX11_laysLines 71 = .ok (.imul, 1) := by decide +kernel
theorem dX11_laysLines_72 : decode cX11_laysLines 72 = .ok (.iload_n 3, 1) := by decide +kernel
theorem dX11_laysLines_73 : decode cX11_laysLines 73 = .ok (.iadd, 1) := by decide +kernel
theorem dX11_laysLines_74 : decode cX11_laysLines 74 = .ok (.aload_n 0, 1) := by decide +kernel
theorem dX11_laysLines_75 : decode cX11_laysLines 75 = .ok (.getfield 99, 3) := by decide +kernel
theorem dX11_laysLines_78 : decode cX11_laysLines 78 = .ok (.bipush 40, 2) := by decide +kernel
theorem dX11_laysLines_80 : decode cX11_laysLines 80 = .ok (.iload_n 1, 1) := by decide +kernel
theorem dX11_laysLines_81 : decode cX11_laysLines 81 = .ok (.imul, 1) := by decide +kernel
theorem dX11_laysLines_82 : decode cX11_laysLines 82 = .ok (.iload_n 3, 1) := by decide +kernel
theorem dX11_laysLines_83 : decode cX11_laysLines 83 = .ok (.iadd, 1) := by decide +kernel
theorem dX11_laysLines_84 : decode cX11_laysLines 84 = .ok (.iaload, 1) := by decide +kernel
theorem dX11_laysLines_85 : decode cX11_laysLines 85 = .ok (.iastore, 1) := by decide +kernel
theorem dX11_laysLines_86 : decode cX11_laysLines 86 = .ok (.aload_n 0, 1) := by decide +kernel
theorem dX11_laysLines_87 : decode cX11_laysLines 87 = .ok (.getfield 102, 3) := by decide +kernel
theorem dX11_laysLines_90 : decode cX11_laysLines 90 = .ok (.bipush 40, 2) := by decide +kernel
theorem dX11_laysLines_92 : decode cX11_laysLines 92 = .ok (.iload_n 2, 1) := by decide +kernel
theorem dX11_laysLines_93 : decode cX11_laysLines 93 = .ok (.imul, 1) := by decide +kernel
theorem dX11_laysLines_94 : decode cX11_laysLines 94 = .ok (.iload_n 3, 1) := by decide +kernel
theorem dX11_laysLines_95 : decode cX11_laysLines 95 = .ok (.iadd, 1) := by decide +kernel
theorem dX11_laysLines_96 : decode cX11_laysLines 96 = .ok (.aload_n 0, 1) := by decide +kernel
theorem dX11_laysLines_97 : decode cX11_laysLines 97 = .ok (.getfield 102, 3) := by decide +kernel
theorem dX11_laysLines_100 : decode cX11_laysLines 100 = .ok (.bipush 40, 2) := by decide +kernel
theorem dX11_laysLines_102 : decode cX11_laysLines 102 = .ok (.iload_n 1, 1) := by decide +kernel
theorem dX11_laysLines_103 : decode cX11_laysLines 103 = .ok (.imul, 1) := by decide +kernel
theorem dX11_laysLines_104 : decode cX11_laysLines 104 = .ok (.iload_n 3, 1) := by decide +kernel
theorem dX11_laysLines_105 : decode cX11_laysLines 105 = .ok (.iadd, 1) := by decide +kernel
theorem dX11_laysLines_106 : decode cX11_laysLines 106 = .ok (.iaload, 1) := by decide +kernel
theorem dX11_laysLines_107 : decode cX11_laysLines 107 = .ok (.iastore, 1) := by decide +kernel
theorem dX11_laysLines_108 : decode cX11_laysLines 108 = .ok (.iinc 3 1, 3) := by decide +kernel
theorem dX11_laysLines_111 : decode cX11_laysLines 111 = .ok (.goto (-97), 3) := by decide +kernel
theorem dX11_laysLines_114 : decode cX11_laysLines 114 = .ok (.return_, 1) := by decide +kernel
theorem dX11_laysSeen_0 : decode cX11_laysSeen 0 = .ok (.aload_n 0, 1) := by decide +kernel
theorem dX11_laysSeen_1 : decode cX11_laysSeen 1 = .ok (.getfield 105, 3) := by decide +kernel
theorem dX11_laysSeen_4 : decode cX11_laysSeen 4 = .ok (.iload_n 2, 1) := by decide +kernel
theorem dX11_laysSeen_5 : decode cX11_laysSeen 5 = .ok (.aload_n 0, 1) := by decide +kernel
theorem dX11_laysSeen_6 : decode cX11_laysSeen 6 = .ok (.getfield 105, 3) := by decide +kernel
theorem dX11_laysSeen_9 : decode cX11_laysSeen 9 = .ok (.iload_n 1, 1) := by decide +kernel
theorem dX11_laysSeen_10 : decode cX11_laysSeen 10 = .ok (.iaload, 1) := by decide +kernel
theorem dX11_laysSeen_11 : decode cX11_laysSeen 11 = .ok (.iastore, 1) := by decide +kernel
theorem dX11_laysSeen_12 : decode cX11_laysSeen 12 = .ok (.iconst 0, 1) := by decide +kernel
theorem dX11_laysSeen_13 : decode cX11_laysSeen 13 = .ok (.istore_n 3, 1) := by decide +kernel
theorem dX11_laysSeen_14 : decode cX11_laysSeen 14 = .ok (.iload_n 3, 1) := by decide +kernel
theorem dX11_laysSeen_15 : decode cX11_laysSeen 15 = .ok (.bipush 8, 2) := by decide +kernel
theorem dX11_laysSeen_17 : decode cX11_laysSeen 17 = .ok (.if_icmp .ge 97, 3) := by decide +kernel
theorem dX11_laysSeen_20 : decode cX11_laysSeen 20 = .ok (.aload_n 0, 1) := by decide +kernel
theorem dX11_laysSeen_21 : decode cX11_laysSeen 21 = .ok (.getfield 108, 3) := by decide +kernel
theorem dX11_laysSeen_24 : decode cX11_laysSeen 24 = .ok (.bipush 8, 2) := by decide +kernel
theorem dX11_laysSeen_26 : decode cX11_laysSeen 26 = .ok (.iload_n 2, 1) := by decide +kernel
theorem dX11_laysSeen_27 : decode cX11_laysSeen 27 = .ok (.imul, 1) := by decide +kernel
theorem dX11_laysSeen_28 : decode cX11_laysSeen 28 = .ok (.iload_n 3, 1) := by decide +kernel
theorem dX11_laysSeen_29 : decode cX11_laysSeen 29 = .ok (.iadd, 1) := by decide +kernel
theorem dX11_laysSeen_30 : decode cX11_laysSeen 30 = .ok (.aload_n 0, 1) := by decide +kernel
theorem dX11_laysSeen_31 : decode cX11_laysSeen 31 = .ok (.getfield 108, 3) := by decide +kernel
theorem dX11_laysSeen_34 : decode cX11_laysSeen 34 = .ok (.bipush 8, 2) := by decide +kernel
theorem dX11_laysSeen_36 : decode cX11_laysSeen 36 = .ok (.iload_n 1, 1) := by decide +kernel
theorem dX11_laysSeen_37 : decode cX11_laysSeen 37 = .ok (.imul, 1) := by decide +kernel
theorem dX11_laysSeen_38 : decode cX11_laysSeen 38 = .ok (.iload_n 3, 1) := by decide +kernel
theorem dX11_laysSeen_39 : decode cX11_laysSeen 39 = .ok (.iadd, 1) := by decide +kernel
theorem dX11_laysSeen_40 : decode cX11_laysSeen 40 = .ok (.iaload, 1) := by decide +kernel
theorem dX11_laysSeen_41 : decode cX11_laysSeen 41 = .ok (.iastore, 1) := by decide +kernel
theorem dX11_laysSeen_42 : decode cX11_laysSeen 42 = .ok (.aload_n 0, 1) := by decide +kernel
theorem dX11_laysSeen_43 : decode cX11_laysSeen 43 = .ok (.getfield 111, 3) := by decide +kernel
theorem dX11_laysSeen_46 : decode cX11_laysSeen 46 = .ok (.bipush 8, 2) := by decide +kernel
theorem dX11_laysSeen_48 : decode cX11_laysSeen 48 = .ok (.iload_n 2, 1) := by decide +kernel
theorem dX11_laysSeen_49 : decode cX11_laysSeen 49 = .ok (.imul, 1) := by decide +kernel
theorem dX11_laysSeen_50 : decode cX11_laysSeen 50 = .ok (.iload_n 3, 1) := by decide +kernel
theorem dX11_laysSeen_51 : decode cX11_laysSeen 51 = .ok (.iadd, 1) := by decide +kernel
theorem dX11_laysSeen_52 : decode cX11_laysSeen 52 = .ok (.aload_n 0, 1) := by decide +kernel
theorem dX11_laysSeen_53 : decode cX11_laysSeen 53 = .ok (.getfield 111, 3) := by decide +kernel
theorem dX11_laysSeen_56 : decode cX11_laysSeen 56 = .ok (.bipush 8, 2) := by decide +kernel
theorem dX11_laysSeen_58 : decode cX11_laysSeen 58 = .ok (.iload_n 1, 1) := by decide +kernel
theorem dX11_laysSeen_59 : decode cX11_laysSeen 59 = .ok (.imul, 1) := by decide +kernel
theorem dX11_laysSeen_60 : decode cX11_laysSeen 60 = .ok (.iload_n 3, 1) := by decide +kernel
theorem dX11_laysSeen_61 : decode cX11_laysSeen 61 = .ok (.iadd, 1) := by decide +kernel
theorem dX11_laysSeen_62 : decode cX11_laysSeen 62 = .ok (.iaload, 1) := by decide +kernel
theorem dX11_laysSeen_63 : decode cX11_laysSeen 63 = .ok (.iastore, 1) := by decide +kernel
theorem dX11_laysSeen_64 : decode cX11_laysSeen 64 = .ok (.aload_n 0, 1) := by decide +kernel
theorem dX11_laysSeen_65 : decode cX11_laysSeen 65 = .ok (.getfield 114, 3) := by decide +kernel
theorem dX11_laysSeen_68 : decode cX11_laysSeen 68 = .ok (.bipush 8, 2) := by decide +kernel
theorem dX11_laysSeen_70 : decode cX11_laysSeen 70 = .ok (.iload_n 2, 1) := by decide +kernel
theorem dX11_laysSeen_71 : decode cX11_laysSeen 71 = .ok (.imul, 1) := by decide +kernel
theorem dX11_laysSeen_72 : decode cX11_laysSeen 72 = .ok (.iload_n 3, 1) := by decide +kernel
theorem dX11_laysSeen_73 : decode cX11_laysSeen 73 = .ok (.iadd, 1) := by decide +kernel
theorem dX11_laysSeen_74 : decode cX11_laysSeen 74 = .ok (.aload_n 0, 1) := by decide +kernel
theorem dX11_laysSeen_75 : decode cX11_laysSeen 75 = .ok (.getfield 114, 3) := by decide +kernel
theorem dX11_laysSeen_78 : decode cX11_laysSeen 78 = .ok (.bipush 8, 2) := by decide +kernel
theorem dX11_laysSeen_80 : decode cX11_laysSeen 80 = .ok (.iload_n 1, 1) := by decide +kernel
theorem dX11_laysSeen_81 : decode cX11_laysSeen 81 = .ok (.imul, 1) := by decide +kernel
theorem dX11_laysSeen_82 : decode cX11_laysSeen 82 = .ok (.iload_n 3, 1) := by decide +kernel
theorem dX11_laysSeen_83 : decode cX11_laysSeen 83 = .ok (.iadd, 1) := by decide +kernel
theorem dX11_laysSeen_84 : decode cX11_laysSeen 84 = .ok (.iaload, 1) := by decide +kernel
theorem dX11_laysSeen_85 : decode cX11_laysSeen 85 = .ok (.iastore, 1) := by decide +kernel
theorem dX11_laysSeen_86 : decode cX11_laysSeen 86 = .ok (.aload_n 0, 1) := by decide +kernel
theorem dX11_laysSeen_87 : decode cX11_laysSeen 87 = .ok (.getfield 117, 3) := by decide +kernel
theorem dX11_laysSeen_90 : decode cX11_laysSeen 90 = .ok (.bipush 8, 2) := by decide +kernel
theorem dX11_laysSeen_92 : decode cX11_laysSeen 92 = .ok (.iload_n 2, 1) := by decide +kernel
theorem dX11_laysSeen_93 : decode cX11_laysSeen 93 = .ok (.imul, 1) := by decide +kernel
theorem dX11_laysSeen_94 : decode cX11_laysSeen 94 = .ok (.iload_n 3, 1) := by decide +kernel
theorem dX11_laysSeen_95 : decode cX11_laysSeen 95 = .ok (.iadd, 1) := by decide +kernel
theorem dX11_laysSeen_96 : decode cX11_laysSeen 96 = .ok (.aload_n 0, 1) := by decide +kernel
theorem dX11_laysSeen_97 : decode cX11_laysSeen 97 = .ok (.getfield 117, 3) := by decide +kernel
theorem dX11_laysSeen_100 : decode cX11_laysSeen 100 = .ok (.bipush 8, 2) := by decide +kernel
theorem dX11_laysSeen_102 : decode cX11_laysSeen 102 = .ok (.iload_n 1, 1) := by decide +kernel
theorem dX11_laysSeen_103 : decode cX11_laysSeen 103 = .ok (.imul, 1) := by decide +kernel
theorem dX11_laysSeen_104 : decode cX11_laysSeen 104 = .ok (.iload_n 3, 1) := by decide +kernel
theorem dX11_laysSeen_105 : decode cX11_laysSeen 105 = .ok (.iadd, 1) := by decide +kernel
theorem dX11_laysSeen_106 : decode cX11_laysSeen 106 = .ok (.baload, 1) := by decide +kernel
theorem dX11_laysSeen_107 : decode cX11_laysSeen 107 = .ok (.bastore, 1) := by decide +kernel
theorem dX11_laysSeen_108 : decode cX11_laysSeen 108 = .ok (.iinc 3 1, 3) := by decide +kernel
theorem dX11_laysSeen_111 : decode cX11_laysSeen 111 = .ok (.goto (-97), 3) := by decide +kernel
theorem dX11_laysSeen_114 : decode cX11_laysSeen 114 = .ok (.return_, 1) := by decide +kernel
theorem dX11_fresh0_0 : decode cX11_fresh0 0 = .ok (.iconst 0, 1) := by decide +kernel
theorem dX11_fresh0_1 : decode cX11_fresh0 1 = .ok (.istore_n 1, 1) := by decide +kernel
theorem dX11_fresh0_2 : decode cX11_fresh0 2 = .ok (.iload_n 1, 1) := by decide +kernel
theorem dX11_fresh0_3 : decode cX11_fresh0 3 = .ok (.bipush 25, 2) := by decide +kernel
theorem dX11_fresh0_5 : decode cX11_fresh0 5 = .ok (.if_icmp .ge 16, 3) := by decide +kernel
theorem dX11_fresh0_8 : decode cX11_fresh0 8 = .ok (.aload_n 0, 1) := by decide +kernel
theorem dX11_fresh0_9 : decode cX11_fresh0 9 = .ok (.getfield 120, 3) := by decide +kernel
theorem dX11_fresh0_12 : decode cX11_fresh0 12 = .ok (.iload_n 1, 1) := by decide +kernel
theorem dX11_fresh0_13 : decode cX11_fresh0 13 = .ok (.iconst 0, 1) := by decide +kernel
theorem dX11_fresh0_14 : decode cX11_fresh0 14 = .ok (.iastore, 1) := by decide +kernel
theorem dX11_fresh0_15 : decode cX11_fresh0 15 = .ok (.iinc 1 1, 3) := by decide +kernel
theorem dX11_fresh0_18 : decode cX11_fresh0 18 = .ok (.goto (-16), 3) := by decide +kernel
theorem dX11_fresh0_21 : decode cX11_fresh0 21 = .ok (.iconst 0, 1) := by decide +kernel
theorem dX11_fresh0_22 : decode cX11_fresh0 22 = .ok (.istore_n 1, 1) := by decide +kernel
theorem dX11_fresh0_23 : decode cX11_fresh0 23 = .ok (.iload_n 1, 1) := by decide +kernel
theorem dX11_fresh0_24 : decode cX11_fresh0 24 = .ok (.aload_n 0, 1) := by decide +kernel
theorem dX11_fresh0_25 : decode cX11_fresh0 25 = .ok (.getfield 13, 3) := by decide +kernel
theorem dX11_fresh0_28 : decode cX11_fresh0 28 = .ok (.iconst 0, 1) := by decide +kernel
theorem dX11_fresh0_29 : decode cX11_fresh0 29 = .ok (.iaload, 1) := by decide +kernel
theorem dX11_fresh0_30 : decode cX11_fresh0 30 = .ok (.if_icmp .ge 23, 3) := by decide +kernel
theorem dX11_fresh0_33 : decode cX11_fresh0 33 = .ok (.aload_n 0, 1) := by decide +kernel
theorem dX11_fresh0_34 : decode cX11_fresh0 34 = .ok (.getfield 120, 3) := by decide +kernel
theorem dX11_fresh0_37 : decode cX11_fresh0 37 = .ok (.iconst 1, 1) := by decide +kernel
theorem dX11_fresh0_38 : decode cX11_fresh0 38 = .ok (.iload_n 1, 1) := by decide +kernel
theorem dX11_fresh0_39 : decode cX11_fresh0 39 = .ok (.iadd, 1) := by decide +kernel
theorem dX11_fresh0_40 : decode cX11_fresh0 40 = .ok (.aload_n 0, 1) := by decide +kernel
theorem dX11_fresh0_41 : decode cX11_fresh0 41 = .ok (.getfield 26, 3) := by decide +kernel
theorem dX11_fresh0_44 : decode cX11_fresh0 44 = .ok (.iload_n 1, 1) := by decide +kernel
theorem dX11_fresh0_45 : decode cX11_fresh0 45 = .ok (.iaload, 1) := by decide +kernel
theorem dX11_fresh0_46 : decode cX11_fresh0 46 = .ok (.iastore, 1) := by decide +kernel
theorem dX11_fresh0_47 : decode cX11_fresh0 47 = .ok (.iinc 1 1, 3) := by decide +kernel
theorem dX11_fresh0_50 : decode cX11_fresh0 50 = .ok (.goto (-27), 3) := by decide +kernel
theorem dX11_fresh0_53 : decode cX11_fresh0 53 = .ok (.return_, 1) := by decide +kernel
theorem dX11_library_0 : decode cX11_library 0 = .ok (.aload_n 0, 1) := by decide +kernel
theorem dX11_library_1 : decode cX11_library 1 = .ok (.iconst 0, 1) := by decide +kernel
theorem dX11_library_2 : decode cX11_library 2 = .ok (.putfield 144, 3) := by decide +kernel
theorem dX11_library_5 : decode cX11_library 5 = .ok (.aload_n 0, 1) := by decide +kernel
theorem dX11_library_6 : decode cX11_library 6 = .ok (.invokevirtual 334, 3) := by decide +kernel
theorem dX11_library_9 : decode cX11_library 9 = .ok (.ifCond .ne 8, 3) := by decide +kernel
theorem dX11_library_12 : decode cX11_library 12 = .ok (.aload_n 0, 1) := by decide +kernel
theorem dX11_library_13 : decode cX11_library 13 = .ok (.getfield 180, 3) := by decide +kernel
theorem dX11_library_16 : decode cX11_library 16 = .ok (.ireturn, 1) := by decide +kernel
theorem dX11_library_17 : decode cX11_library 17 = .ok (.aload_n 0, 1) := by decide +kernel
theorem dX11_library_18 : decode cX11_library 18 = .ok (.invokevirtual 337, 3) := by decide +kernel
theorem dX11_library_21 : decode cX11_library 21 = .ok (.aload_n 0, 1) := by decide +kernel
theorem dX11_library_22 : decode cX11_library 22 = .ok (.invokevirtual 340, 3) := by decide +kernel
theorem dX11_library_25 : decode cX11_library 25 = .ok (.aload_n 0, 1) := by decide +kernel
theorem dX11_library_26 : decode cX11_library 26 = .ok (.getfield 90, 3) := by decide +kernel
theorem dX11_library_29 : decode cX11_library 29 = .ok (.iconst 0, 1) := by decide +kernel
theorem dX11_library_30 : decode cX11_library 30 = .ok (.iconst 0, 1) := by decide +kernel
theorem dX11_library_31 : decode cX11_library 31 = .ok (.iastore, 1) := by decide +kernel
theorem dX11_library_32 : decode cX11_library 32 = .ok (.aload_n 0, 1) := by decide +kernel
theorem dX11_library_33 : decode cX11_library 33 = .ok (.getfield 105, 3) := by decide +kernel
theorem dX11_library_36 : decode cX11_library 36 = .ok (.iconst 0, 1) := by decide +kernel
theorem dX11_library_37 : decode cX11_library 37 = .ok (.iconst 0, 1) := by decide +kernel
theorem dX11_library_38 : decode cX11_library 38 = .ok (.iastore, 1) := by decide +kernel
theorem dX11_library_39 : decode cX11_library 39 = .ok (.aload_n 0, 1) := by decide +kernel
theorem dX11_library_40 : decode cX11_library 40 = .ok (.iconst 0, 1) := by decide +kernel
theorem dX11_library_41 : decode cX11_library 41 = .ok (.putfield 343, 3) := by decide +kernel
theorem dX11_library_44 : decode cX11_library 44 = .ok (.iconst 0, 1) := by decide +kernel
theorem dX11_library_45 : decode cX11_library 45 = .ok (.istore_n 1, 1) := by decide +kernel
theorem dX11_library_46 : decode cX11_library 46 = .ok (.iload_n 1, 1) := by decide +kernel
theorem dX11_library_47 : decode cX11_library 47 = .ok (.iconst 4, 1) := by decide +kernel
theorem dX11_library_48 : decode cX11_library 48 = .ok (.if_icmp .ge 16, 3) := by decide +kernel
theorem dX11_library_51 : decode cX11_library 51 = .ok (.aload_n 0, 1) := by decide +kernel
theorem dX11_library_52 : decode cX11_library 52 = .ok (.getfield 135, 3) := by decide +kernel
theorem dX11_library_55 : decode cX11_library 55 = .ok (.iload_n 1, 1) := by decide +kernel
theorem dX11_library_56 : decode cX11_library 56 = .ok (.iconst 0, 1) := by decide +kernel
theorem dX11_library_57 : decode cX11_library 57 = .ok (.bastore, 1) := by decide +kernel
theorem dX11_library_58 : decode cX11_library 58 = .ok (.iinc 1 1, 3) := by decide +kernel
theorem dX11_library_61 : decode cX11_library 61 = .ok (.goto (-15), 3) := by decide +kernel
theorem dX11_library_64 : decode cX11_library 64 = .ok (.iconst 0, 1) := by decide +kernel
theorem dX11_library_65 : decode cX11_library 65 = .ok (.ireturn, 1) := by decide +kernel
theorem dX11_year_0 : decode cX11_year 0 = .ok (.aload_n 0, 1) := by decide +kernel
theorem dX11_year_1 : decode cX11_year 1 = .ok (.iconst 0, 1) := by decide +kernel
theorem dX11_year_2 : decode cX11_year 2 = .ok (.putfield 144, 3) := by decide +kernel
theorem dX11_year_5 : decode cX11_year 5 = .ok (.aload_n 0, 1) := by decide +kernel
theorem dX11_year_6 : decode cX11_year 6 = .ok (.getfield 90, 3) := by decide +kernel
theorem dX11_year_9 : decode cX11_year 9 = .ok (.iconst 5, 1) := by decide +kernel
theorem dX11_year_10 : decode cX11_year 10 = .ok (.iconst 0, 1) := by decide +kernel
theorem dX11_year_11 : decode cX11_year 11 = .ok (.iastore, 1) := by decide +kernel
theorem dX11_year_12 : decode cX11_year 12 = .ok (.aload_n 0, 1) := by decide +kernel
theorem dX11_year_13 : decode cX11_year 13 = .ok (.invokevirtual 305, 3) := by decide +kernel
theorem dX11_year_16 : decode cX11_year 16 = .ok (.aload_n 0, 1) := by decide +kernel
theorem dX11_year_17 : decode cX11_year 17 = .ok (.getfield 169, 3) := by decide +kernel
theorem dX11_year_20 : decode cX11_year 20 = .ok (.ifCond .eq 15, 3) := by decide +kernel
theorem dX11_year_23 : decode cX11_year 23 = .ok (.aload_n 0, 1) := by decide +kernel
theorem dX11_year_24 : decode cX11_year 24 = .ok (.invokevirtual 346, 3) := by decide +kernel
theorem dX11_year_27 : decode cX11_year 27 = .ok (.ifCond .ne (-11), 3) := by decide +kernel
theorem dX11_year_30 : decode cX11_year 30 = .ok (.aload_n 0, 1) := by decide +kernel
theorem dX11_year_31 : decode cX11_year 31 = .ok (.getfield 180, 3) := by decide +kernel
theorem dX11_year_34 : decode cX11_year 34 = .ok (.ireturn, 1) := by decide +kernel
theorem dX11_year_35 : decode cX11_year 35 = .ok (.aload_n 0, 1) := by decide +kernel
theorem dX11_year_36 : decode cX11_year 36 = .ok (.iconst 5, 1) := by decide +kernel
theorem dX11_year_37 : decode cX11_year 37 = .ok (.iconst 0, 1) := by decide +kernel
theorem dX11_year_38 : decode cX11_year 38 = .ok (.invokevirtual 349, 3) := by decide +kernel
theorem dX11_year_41 : decode cX11_year 41 = .ok (.iconst 0, 1) := by decide +kernel
theorem dX11_year_42 : decode cX11_year 42 = .ok (.ireturn, 1) := by decide +kernel
theorem dX11_isSkin_0 : decode cX11_isSkin 0 = .ok (.iload_n 1, 1) := by decide +kernel
theorem dX11_isSkin_1 : decode cX11_isSkin 1 = .ok (.ifCond .lt 17, 3) := by decide +kernel
theorem dX11_isSkin_4 : decode cX11_isSkin 4 = .ok (.iload_n 1, 1) := by decide +kernel
theorem dX11_isSkin_5 : decode cX11_isSkin 5 = .ok (.aload_n 0, 1) := by decide +kernel
theorem dX11_isSkin_6 : decode cX11_isSkin 6 = .ok (.getfield 13, 3) := by decide +kernel
theorem dX11_isSkin_9 : decode cX11_isSkin 9 = .ok (.iconst 0, 1) := by decide +kernel
theorem dX11_isSkin_10 : decode cX11_isSkin 10 = .ok (.iaload, 1) := by decide +kernel
theorem dX11_isSkin_11 : decode cX11_isSkin 11 = .ok (.if_icmp .ge 7, 3) := by decide +kernel
theorem dX11_isSkin_14 : decode cX11_isSkin 14 = .ok (.iconst 1, 1) := by decide +kernel
theorem dX11_isSkin_15 : decode cX11_isSkin 15 = .ok (.goto 4, 3) := by decide +kernel
theorem dX11_isSkin_18 : decode cX11_isSkin 18 = .ok (.iconst 0, 1) := by decide +kernel
theorem dX11_isSkin_19 : decode cX11_isSkin 19 = .ok (.ireturn, 1) := by decide +kernel
theorem dX11_isText_0 : decode cX11_isText 0 = .ok (.iload_n 1, 1) := by decide +kernel
theorem dX11_isText_1 : decode cX11_isText 1 = .ok (.ifCond .lt 17, 3) := by decide +kernel
theorem dX11_isText_4 : decode cX11_isText 4 = .ok (.iload_n 1, 1) := by decide +kernel
theorem dX11_isText_5 : decode cX11_isText 5 = .ok (.aload_n 0, 1) := by decide +kernel
theorem dX11_isText_6 : decode cX11_isText 6 = .ok (.getfield 13, 3) := by decide +kernel
theorem dX11_isText_9 : decode cX11_isText 9 = .ok (.iconst 1, 1) := by decide +kernel
theorem dX11_isText_10 : decode cX11_isText 10 = .ok (.iaload, 1) := by decide +kernel
theorem dX11_isText_11 : decode cX11_isText 11 = .ok (.if_icmp .ge 7, 3) := by decide +kernel
theorem dX11_isText_14 : decode cX11_isText 14 = .ok (.iconst 1, 1) := by decide +kernel
theorem dX11_isText_15 : decode cX11_isText 15 = .ok (.goto 4, 3) := by decide +kernel
theorem dX11_isText_18 : decode cX11_isText 18 = .ok (.iconst 0, 1) := by decide +kernel
theorem dX11_isText_19 : decode cX11_isText 19 = .ok (.ireturn, 1) := by decide +kernel
theorem dX11_isLine_0 : decode cX11_isLine 0 = .ok (.aload_n 0, 1) := by decide +kernel
theorem dX11_isLine_1 : decode cX11_isLine 1 = .ok (.iload_n 1, 1) := by decide +kernel
theorem dX11_isLine_2 : decode cX11_isLine 2 = .ok (.invokevirtual 353, 3) := by decide +kernel
theorem dX11_isLine_5 : decode cX11_isLine 5 = .ok (.ifCond .eq 21, 3) := by decide +kernel
theorem dX11_isLine_8 : decode cX11_isLine 8 = .ok (.iload_n 2, 1) := by decide +kernel
theorem dX11_isLine_9 : decode cX11_isLine 9 = .ok (.ifCond .lt 17, 3) := by decide +kernel
theorem dX11_isLine_12 : decode cX11_isLine 12 = .ok (.iload_n 2, 1) := by decide +kernel
theorem dX11_isLine_13 : decode cX11_isLine 13 = .ok (.aload_n 0, 1) := by decide +kernel
theorem dX11_isLine_14 : decode cX11_isLine 14 = .ok (.getfield 23, 3) := by decide +kernel
theorem dX11_isLine_17 : decode cX11_isLine 17 = .ok (.iload_n 1, 1) := by decide +kernel
theorem dX11_isLine_18 : decode cX11_isLine 18 = .ok (.iaload, 1) := by decide +kernel
theorem dX11_isLine_19 : decode cX11_isLine 19 = .ok (.if_icmp .ge 7, 3) := by decide +kernel
theorem dX11_isLine_22 : decode cX11_isLine 22 = .ok (.iconst 1, 1) := by decide +kernel
theorem dX11_isLine_23 : decode cX11_isLine 23 = .ok (.goto 4, 3) := by decide +kernel
theorem dX11_isLine_26 : decode cX11_isLine 26 = .ok (.iconst 0, 1) := by decide +kernel
theorem dX11_isLine_27 : decode cX11_isLine 27 = .ok (.ireturn, 1) := by decide +kernel
theorem dX11_deepOf_0 : decode cX11_deepOf 0 = .ok (.iconst 0, 1) := by decide +kernel
theorem dX11_deepOf_1 : decode cX11_deepOf 1 = .ok (.istore_n 1, 1) := by decide +kernel
theorem dX11_deepOf_2 : decode cX11_deepOf 2 = .ok (.iload_n 0, 1) := by decide +kernel
theorem dX11_deepOf_3 : decode cX11_deepOf 3 = .ok (.istore_n 2, 1) := by decide +kernel
theorem dX11_deepOf_4 : decode cX11_deepOf 4 = .ok (.iload_n 2, 1) := by decide +kernel
theorem dX11_deepOf_5 : decode cX11_deepOf 5 = .ok (.ifCond .le 14, 3) := by decide +kernel
theorem dX11_deepOf_8 : decode cX11_deepOf 8 = .ok (.iinc 1 1, 3) := by decide +kernel
theorem dX11_deepOf_11 : decode cX11_deepOf 11 = .ok (.iload_n 2, 1) := by decide +kernel
theorem dX11_deepOf_12 : decode cX11_deepOf 12 = .ok (.bipush 7, 2) := by decide +kernel
theorem dX11_deepOf_14 : decode cX11_deepOf 14 = .ok (.idiv, 1) := by decide +kernel
theorem dX11_deepOf_15 : decode cX11_deepOf 15 = .ok (.istore_n 2, 1) := by decide +kernel
theorem dX11_deepOf_16 : decode cX11_deepOf 16 = .ok (.goto (-12), 3) := by decide +kernel
theorem dX11_deepOf_19 : decode cX11_deepOf 19 = .ok (.iload_n 1, 1) := by decide +kernel
theorem dX11_deepOf_20 : decode cX11_deepOf 20 = .ok (.ireturn, 1) := by decide +kernel
theorem dX11_dampOf_0 : decode cX11_dampOf 0 = .ok (.aload_n 0, 1) := by decide +kernel
theorem dX11_dampOf_1 : decode cX11_dampOf 1 = .ok (.getfield 13, 3) := by decide +kernel
theorem dX11_dampOf_4 : decode cX11_dampOf 4 = .ok (.iconst 2, 1) := by decide +kernel
theorem dX11_dampOf_5 : decode cX11_dampOf 5 = .ok (.iaload, 1) := by decide +kernel
theorem dX11_dampOf_6 : decode cX11_dampOf 6 = .ok (.ifCond .ne 7, 3) := by decide +kernel
theorem dX11_dampOf_9 : decode cX11_dampOf 9 = .ok (.iconst 0, 1) := by decide +kernel
theorem dX11_dampOf_10 : decode cX11_dampOf 10 = .ok (.goto 16, 3) := by decide +kernel
theorem dX11_dampOf_13 : decode cX11_dampOf 13 = .ok (.aload_n 0, 1) := by decide +kernel
theorem dX11_dampOf_14 : decode cX11_dampOf 14 = .ok (.getfield 41, 3) := by decide +kernel
theorem dX11_dampOf_17 : decode cX11_dampOf 17 = .ok (.iload_n 1, 1) := by decide +kernel
theorem dX11_dampOf_18 : decode cX11_dampOf 18 = .ok (.aload_n 0, 1) := by decide +kernel
theorem dX11_dampOf_19 : decode cX11_dampOf 19 = .ok (.getfield 13, 3) := by decide +kernel
theorem dX11_dampOf_22 : decode cX11_dampOf 22 = .ok (.iconst 2, 1) := by decide +kernel
theorem dX11_dampOf_23 : decode cX11_dampOf 23 = .ok (.iaload, 1) := by decide +kernel
theorem dX11_dampOf_24 : decode cX11_dampOf 24 = .ok (.irem, 1) := by decide +kernel
theorem dX11_dampOf_25 : decode cX11_dampOf 25 = .ok (.iaload, 1) := by decide +kernel
theorem dX11_dampOf_26 : decode cX11_dampOf 26 = .ok (.ireturn, 1) := by decide +kernel
theorem dX11_showsBy_0 : decode cX11_showsBy 0 = .ok (.aload_n 0, 1) := by decide +kernel
theorem dX11_showsBy_1 : decode cX11_showsBy 1 = .ok (.getfield 32, 3) := by decide +kernel
theorem dX11_showsBy_4 : decode cX11_showsBy 4 = .ok (.iload_n 1, 1) := by decide +kernel
theorem dX11_showsBy_5 : decode cX11_showsBy 5 = .ok (.iaload, 1) := by decide +kernel
theorem dX11_showsBy_6 : decode cX11_showsBy 6 = .ok (.iconst 1, 1) := by decide +kernel
theorem dX11_showsBy_7 : decode cX11_showsBy 7 = .ok (.if_icmp .ne 10, 3) := by decide +kernel
theorem dX11_showsBy_10 : decode cX11_showsBy 10 = .ok (.iload 4, 2) := by decide +kernel
theorem dX11_showsBy_12 : decode cX11_showsBy 12 = .ok (.iconst 1, 1) := by decide +kernel
theorem dX11_showsBy_13 : decode cX11_showsBy 13 = .ok (.iadd, 1) := by decide +kernel
theorem dX11_showsBy_14 : decode cX11_showsBy 14 = .ok (.goto 5, 3) := by decide +kernel
theorem dX11_showsBy_17 : decode cX11_showsBy 17 = .ok (.iload 4, 2) := by decide +kernel
theorem dX11_showsBy_19 : decode cX11_showsBy 19 = .ok (.istore 5, 2) := by decide +kernel
theorem dX11_showsBy_21 : decode cX11_showsBy 21 = .ok (.aload_n 0, 1) := by decide +kernel
theorem dX11_showsBy_22 : decode cX11_showsBy 22 = .ok (.getfield 32, 3) := by decide +kernel
theorem dX11_showsBy_25 : decode cX11_showsBy 25 = .ok (.iload_n 1, 1) := by decide +kernel
theorem dX11_showsBy_26 : decode cX11_showsBy 26 = .ok (.iaload, 1) := by decide +kernel
theorem dX11_showsBy_27 : decode cX11_showsBy 27 = .ok (.iconst 2, 1) := by decide +kernel
theorem dX11_showsBy_28 : decode cX11_showsBy 28 = .ok (.if_icmp .ne 9, 3) := by decide +kernel
theorem dX11_showsBy_31 : decode cX11_showsBy 31 = .ok (.iload_n 2, 1) := by decide +kernel
theorem dX11_showsBy_32 : decode cX11_showsBy 32 = .ok (.iconst 1, 1) := by decide +kernel
theorem dX11_showsBy_33 : decode cX11_showsBy 33 = .ok (.isub, 1) := by decide +kernel
theorem dX11_showsBy_34 : decode cX11_showsBy 34 = .ok (.goto 4, 3) := by decide +kernel
theorem dX11_showsBy_37 : decode cX11_showsBy 37 = .ok (.iload_n 2, 1) := by decide +kernel
theorem dX11_showsBy_38 : decode cX11_showsBy 38 = .ok (.istore 6, 2) := by decide +kernel
theorem dX11_showsBy_40 : decode cX11_showsBy 40 = .ok (.aload_n 0, 1) := by decide +kernel
theorem dX11_showsBy_41 : decode cX11_showsBy 41 = .ok (.getfield 47, 3) := by decide +kernel
theorem dX11_showsBy_44 : decode cX11_showsBy 44 = .ok (.iconst 0, 1) := by decide +kernel
theorem dX11_showsBy_45 : decode cX11_showsBy 45 = .ok (.iaload, 1) := by decide +kernel
theorem dX11_showsBy_46 : decode cX11_showsBy 46 = .ok (.aload_n 0, 1) := by decide +kernel
theorem dX11_showsBy_47 : decode cX11_showsBy 47 = .ok (.getfield 44, 3) := by decide +kernel
theorem dX11_showsBy_50 : decode cX11_showsBy 50 = .ok (.iconst 0, 1) := by decide +kernel
theorem dX11_showsBy_51 : decode cX11_showsBy 51 = .ok (.iaload, 1) := by decide +kernel
theorem dX11_showsBy_52 : decode cX11_showsBy 52 = .ok (.if_icmp .ne 25, 3) := by decide +kernel
theorem dX11_showsBy_55 : decode cX11_showsBy 55 = .ok (.iload 6, 2) := by decide +kernel
theorem dX11_showsBy_57 : decode cX11_showsBy 57 = .ok (.iconst 2, 1) := by decide +kernel
theorem dX11_showsBy_58 : decode cX11_showsBy 58 = .ok (.imul, 1) := by decide +kernel
theorem dX11_showsBy_59 : decode cX11_showsBy 59 = .ok (.aload_n 0, 1) := by decide +kernel
theorem dX11_showsBy_60 : decode cX11_showsBy 60 = .ok (.getfield 35, 3) := by decide +kernel
theorem dX11_showsBy_63 : decode cX11_showsBy 63 = .ok (.iload_n 1, 1) := by decide +kernel
theorem dX11_showsBy_64 : decode cX11_showsBy 64 = .ok (.iaload, 1) := by decide +kernel
theorem dX11_showsBy_65 : decode cX11_showsBy 65 = .ok (.isub, 1) := by decide +kernel
theorem dX11_showsBy_66 : decode cX11_showsBy 66 = .ok (.iload 5, 2) := by decide +kernel
theorem dX11_showsBy_68 : decode cX11_showsBy 68 = .ok (.if_icmp .ge 7, 3) := by decide +kernel
theorem dX11_showsBy_71 : decode cX11_showsBy 71 = .ok (.iconst 1, 1) := by decide +kernel
theorem dX11_showsBy_72 : decode cX11_showsBy 72 = .ok (.goto 4, 3) := by decide +kernel
theorem dX11_showsBy_75 : decode cX11_showsBy 75 = .ok (.iconst 0, 1) := by decide +kernel
theorem dX11_showsBy_76 : decode cX11_showsBy 76 = .ok (.ireturn, 1) := by decide +kernel
theorem dX11_showsBy_77 : decode cX11_showsBy 77 = .ok (.aload_n 0, 1) := by decide +kernel
theorem dX11_showsBy_78 : decode cX11_showsBy 78 = .ok (.getfield 87, 3) := by decide +kernel
theorem dX11_showsBy_81 : decode cX11_showsBy 81 = .ok (.iconst 1, 1) := by decide +kernel
theorem dX11_showsBy_82 : decode cX11_showsBy 82 = .ok (.iload 5, 2) := by decide +kernel
theorem dX11_showsBy_84 : decode cX11_showsBy 84 = .ok (.iastore, 1) := by decide +kernel
theorem dX11_showsBy_85 : decode cX11_showsBy 85 = .ok (.aload_n 0, 1) := by decide +kernel
theorem dX11_showsBy_86 : decode cX11_showsBy 86 = .ok (.getfield 87, 3) := by decide +kernel
theorem dX11_showsBy_89 : decode cX11_showsBy 89 = .ok (.iconst 2, 1) := by decide +kernel
theorem dX11_showsBy_90 : decode cX11_showsBy 90 = .ok (.iload 6, 2) := by decide +kernel
theorem dX11_showsBy_92 : decode cX11_showsBy 92 = .ok (.iastore, 1) := by decide +kernel
theorem dX11_showsBy_93 : decode cX11_showsBy 93 = .ok (.aload_n 0, 1) := by decide +kernel
theorem dX11_showsBy_94 : decode cX11_showsBy 94 = .ok (.getfield 87, 3) := by decide +kernel
theorem dX11_showsBy_97 : decode cX11_showsBy 97 = .ok (.iconst 3, 1) := by decide +kernel
theorem dX11_showsBy_98 : decode cX11_showsBy 98 = .ok (.aload_n 0, 1) := by decide +kernel
theorem dX11_showsBy_99 : decode cX11_showsBy 99 = .ok (.getfield 35, 3) := by decide +kernel
theorem dX11_showsBy_102 : decode cX11_showsBy 102 = .ok (.iload_n 1, 1) := by decide +kernel
theorem dX11_showsBy_103 : decode cX11_showsBy 103 = .ok (.iaload, 1) := by decide +kernel
theorem dX11_showsBy_104 : decode cX11_showsBy 104 = .ok (.iastore, 1) := by decide +kernel
theorem dX11_showsBy_105 : decode cX11_showsBy 105 = .ok (.aload_n 0, 1) := by decide +kernel
theorem dX11_showsBy_106 : decode cX11_showsBy 106 = .ok (.getfield 87, 3) := by decide +kernel
theorem dX11_showsBy_109 : decode cX11_showsBy 109 = .ok (.iconst 4, 1) := by decide +kernel
theorem dX11_showsBy_110 : decode cX11_showsBy 110 = .ok (.iload_n 3, 1) := by decide +kernel
theorem dX11_showsBy_111 : decode cX11_showsBy 111 = .ok (.iastore, 1) := by decide +kernel
theorem dX11_showsBy_112 : decode cX11_showsBy 112 = .ok (.aload_n 0, 1) := by decide +kernel
theorem dX11_showsBy_113 : decode cX11_showsBy 113 = .ok (.iconst 0, 1) := by decide +kernel
theorem dX11_showsBy_114 : decode cX11_showsBy 114 = .ok (.invokevirtual 356, 3) := by decide +kernel
theorem dX11_showsBy_117 : decode cX11_showsBy 117 = .ok (.ifCond .eq 7, 3) := by decide +kernel
theorem dX11_showsBy_120 : decode cX11_showsBy 120 = .ok (.iconst 1, 1) := by decide +kernel
theorem dX11_showsBy_121 : decode cX11_showsBy 121 = .ok (.goto 4, 3) := by decide +kernel
theorem dX11_showsBy_124 : decode cX11_showsBy 124 = .ok (.iconst 0, 1) := by decide +kernel
theorem dX11_showsBy_125 : decode cX11_showsBy 125 = .ok (.ireturn, 1) := by decide +kernel
theorem dX11_readBy_0 : decode cX11_readBy 0 = .ok (.aload_n 0, 1) := by decide +kernel
theorem dX11_readBy_1 : decode cX11_readBy 1 = .ok (.getfield 120, 3) := by decide +kernel
theorem dX11_readBy_4 : decode cX11_readBy 4 = .ok (.bipush 7, 2) := by decide +kernel
theorem dX11_readBy_6 : decode cX11_readBy 6 = .ok (.bipush 6, 2) := by decide +kernel
theorem dX11_readBy_8 : decode cX11_readBy 8 = .ok (.iload_n 1, 1) := by decide +kernel
theorem dX11_readBy_9 : decode cX11_readBy 9 = .ok (.imul, 1) := by decide +kernel
theorem dX11_readBy_10 : decode cX11_readBy 10 = .ok (.iadd, 1) := by decide +kernel
theorem dX11_readBy_11 : decode cX11_readBy 11 = .ok (.iload_n 2, 1) := by decide +kernel
theorem dX11_readBy_12 : decode cX11_readBy 12 = .ok (.iadd, 1) := by decide +kernel
theorem dX11_readBy_13 : decode cX11_readBy 13 = .ok (.iaload, 1) := by decide +kernel
theorem dX11_readBy_14 : decode cX11_readBy 14 = .ok (.istore 4, 2) := by decide +kernel
theorem dX11_readBy_16 : decode cX11_readBy 16 = .ok (.aload_n 0, 1) := by decide +kernel
theorem dX11_readBy_17 : decode cX11_readBy 17 = .ok (.getfield 120, 3) := by decide +kernel
theorem dX11_readBy_20 : decode cX11_readBy 20 = .ok (.iconst 4, 1) := by decide +kernel
theorem dX11_readBy_21 : decode cX11_readBy 21 = .ok (.iload_n 1, 1) := by decide +kernel
theorem dX11_readBy_22 : decode cX11_readBy 22 = .ok (.iadd, 1) := by decide +kernel
theorem dX11_readBy_23 : decode cX11_readBy 23 = .ok (.iaload, 1) := by decide +kernel
theorem dX11_readBy_24 : decode cX11_readBy 24 = .ok (.iload_n 2, 1) := by decide +kernel
theorem dX11_readBy_25 : decode cX11_readBy 25 = .ok (.ishr, 1) := by decide +kernel
theorem dX11_readBy_26 : decode cX11_readBy 26 = .ok (.iconst 1, 1) := by decide +kernel
theorem dX11_readBy_27 : decode cX11_readBy 27 = .ok (.iand, 1) := by decide +kernel
theorem dX11_readBy_28 : decode cX11_readBy 28 = .ok (.iconst 1, 1) := by decide +kernel
theorem dX11_readBy_29 : decode cX11_readBy 29 = .ok (.if_icmp .ne 11, 3) := by decide +kernel
theorem dX11_readBy_32 : decode cX11_readBy 32 = .ok (.iload 4, 2) := by decide +kernel
theorem dX11_readBy_34 : decode cX11_readBy 34 = .ok (.bipush 7, 2) := by decide +kernel
theorem dX11_readBy_36 : decode cX11_readBy 36 = .ok (.irem, 1) := by decide +kernel
theorem dX11_readBy_37 : decode cX11_readBy 37 = .ok (.iconst 1, 1) := by decide +kernel
theorem dX11_readBy_38 : decode cX11_readBy 38 = .ok (.isub, 1) := by decide +kernel
theorem dX11_readBy_39 : decode cX11_readBy 39 = .ok (.ireturn, 1) := by decide +kernel
theorem dX11_readBy_40 : decode cX11_readBy 40 = .ok (.iconst 1, 1) := by decide +kernel
theorem dX11_readBy_41 : decode cX11_readBy 41 = .ok (.istore 5, 2) := by decide +kernel
theorem dX11_readBy_43 : decode cX11_readBy 43 = .ok (.iload 4, 2) := by decide +kernel
theorem dX11_readBy_45 : decode cX11_readBy 45 = .ok (.istore 6, 2) := by decide +kernel
theorem dX11_readBy_47 : decode cX11_readBy 47 = .ok (.iload 6, 2) := by decide +kernel
theorem dX11_readBy_49 : decode cX11_readBy 49 = .ok (.ifCond .le 49, 3) := by decide +kernel
theorem dX11_readBy_52 : decode cX11_readBy 52 = .ok (.aload_n 0, 1) := by decide +kernel
theorem dX11_readBy_53 : decode cX11_readBy 53 = .ok (.iload 6, 2) := by decide +kernel
theorem dX11_readBy_55 : decode cX11_readBy 55 = .ok (.bipush 7, 2) := by decide +kernel
theorem dX11_readBy_57 : decode cX11_readBy 57 = .ok (.irem, 1) := by decide +kernel
theorem dX11_readBy_58 : decode cX11_readBy 58 = .ok (.iconst 1, 1) := by decide +kernel
theorem dX11_readBy_59 : decode cX11_readBy 59 = .ok (.isub, 1) := by decide +kernel
theorem dX11_readBy_60 : decode cX11_readBy 60 = .ok (.iload 5, 2) := by decide +kernel
theorem dX11_readBy_62 : decode cX11_readBy 62 = .ok (.aload_n 0, 1) := by decide +kernel
theorem dX11_readBy_63 : decode cX11_readBy 63 = .ok (.getfield 120, 3) := by decide +kernel
theorem dX11_readBy_66 : decode cX11_readBy 66 = .ok (.iconst 1, 1) := by decide +kernel
theorem dX11_readBy_67 : decode cX11_readBy 67 = .ok (.iload_n 1, 1) := by decide +kernel
theorem dX11_readBy_68 : decode cX11_readBy 68 = .ok (.iadd, 1) := by decide +kernel
theorem dX11_readBy_69 : decode cX11_readBy 69 = .ok (.iaload, 1) := by decide +kernel
theorem dX11_readBy_70 : decode cX11_readBy 70 = .ok (.iload_n 3, 1) := by decide +kernel
theorem dX11_readBy_71 : decode cX11_readBy 71 = .ok (.invokevirtual 359, 3) := by decide +kernel
theorem dX11_readBy_74 : decode cX11_readBy 74 = .ok (.ifCond .eq 11, 3) := by decide +kernel
theorem dX11_readBy_77 : decode cX11_readBy 77 = .ok (.iload 6, 2) := by decide +kernel
theorem dX11_readBy_79 : decode cX11_readBy 79 = .ok (.bipush 7, 2) := by decide +kernel
theorem dX11_readBy_81 : decode cX11_readBy 81 = .ok (.irem, 1) := by decide +kernel
theorem dX11_readBy_82 : decode cX11_readBy 82 = .ok (.iconst 1, 1) := by decide +kernel
theorem dX11_readBy_83 : decode cX11_readBy 83 = .ok (.isub, 1) := by decide +kernel
theorem dX11_readBy_84 : decode cX11_readBy 84 = .ok (.ireturn, 1) := by decide +kernel
theorem dX11_readBy_85 : decode cX11_readBy 85 = .ok (.iinc 5 1, 3) := by decide +kernel
theorem dX11_readBy_88 : decode cX11_readBy 88 = .ok (.iload 6, 2) := by decide +kernel
theorem dX11_readBy_90 : decode cX11_readBy 90 = .ok (.bipush 7, 2) := by decide +kernel
theorem dX11_readBy_92 : decode cX11_readBy 92 = .ok (.idiv, 1) := by decide +kernel
theorem dX11_readBy_93 : decode cX11_readBy 93 = .ok (.istore 6, 2) := by decide +kernel
theorem dX11_readBy_95 : decode cX11_readBy 95 = .ok (.goto (-48), 3) := by decide +kernel
theorem dX11_readBy_98 : decode cX11_readBy 98 = .ok (.iconst (-1), 1) := by decide +kernel
theorem dX11_readBy_99 : decode cX11_readBy 99 = .ok (.ireturn, 1) := by decide +kernel
theorem dX11_wholeBy_0 : decode cX11_wholeBy 0 = .ok (.iconst 0, 1) := by decide +kernel
theorem dX11_wholeBy_1 : decode cX11_wholeBy 1 = .ok (.istore_n 2, 1) := by decide +kernel
theorem dX11_wholeBy_2 : decode cX11_wholeBy 2 = .ok (.iconst 0, 1) := by decide +kernel
theorem dX11_wholeBy_3 : decode cX11_wholeBy 3 = .ok (.istore_n 3, 1) := by decide +kernel
theorem dX11_wholeBy_4 : decode cX11_wholeBy 4 = .ok (.iload_n 3, 1) := by decide +kernel
theorem dX11_wholeBy_5 : decode cX11_wholeBy 5 = .ok (.aload_n 0, 1) := by decide +kernel
theorem dX11_wholeBy_6 : decode cX11_wholeBy 6 = .ok (.getfield 13, 3) := by decide +kernel
theorem dX11_wholeBy_9 : decode cX11_wholeBy 9 = .ok (.iconst 0, 1) := by decide +kernel
theorem dX11_wholeBy_10 : decode cX11_wholeBy 10 = .ok (.iaload, 1) := by decide +kernel
theorem dX11_wholeBy_11 : decode cX11_wholeBy 11 = .ok (.if_icmp .ge 90, 3) := by decide +kernel
theorem dX11_wholeBy_14 : decode cX11_wholeBy 14 = .ok (.iconst (-1), 1) := by decide +kernel
theorem dX11_wholeBy_15 : decode cX11_wholeBy 15 = .ok (.istore 4, 2) := by decide +kernel
theorem dX11_wholeBy_17 : decode cX11_wholeBy 17 = .ok (.iconst 0, 1) := by decide +kernel
theorem dX11_wholeBy_18 : decode cX11_wholeBy 18 = .ok (.istore 5, 2) := by decide +kernel
theorem dX11_wholeBy_20 : decode cX11_wholeBy 20 = .ok (.iconst 0, 1) := by decide +kernel
theorem dX11_wholeBy_21 : decode cX11_wholeBy 21 = .ok (.istore 6, 2) := by decide +kernel
theorem dX11_wholeBy_23 : decode cX11_wholeBy 23 = .ok (.iload 6, 2) := by decide +kernel
theorem dX11_wholeBy_25 : decode cX11_wholeBy 25 = .ok (.aload_n 0, 1) := by decide +kernel
theorem dX11_wholeBy_26 : decode cX11_wholeBy 26 = .ok (.getfield 23, 3) := by decide +kernel
theorem dX11_wholeBy_29 : decode cX11_wholeBy 29 = .ok (.iload_n 3, 1) := by decide +kernel
theorem dX11_wholeBy_30 : decode cX11_wholeBy 30 = .ok (.iaload, 1) := by decide +kernel
theorem dX11_wholeBy_31 : decode cX11_wholeBy 31 = .ok (.if_icmp .ge 64, 3) := by decide +kernel
theorem dX11_wholeBy_34 : decode cX11_wholeBy 34 = .ok (.aload_n 0, 1) := by decide +kernel
theorem dX11_wholeBy_35 : decode cX11_wholeBy 35 = .ok (.iload_n 3, 1) := by decide +kernel
theorem dX11_wholeBy_36 : decode cX11_wholeBy 36 = .ok (.iload 6, 2) := by decide +kernel
theorem dX11_wholeBy_38 : decode cX11_wholeBy 38 = .ok (.iload_n 1, 1) := by decide +kernel
theorem dX11_wholeBy_39 : decode cX11_wholeBy 39 = .ok (.invokevirtual 363, 3) := by decide +kernel
theorem dX11_wholeBy_42 : decode cX11_wholeBy 42 = .ok (.istore 7, 2) := by decide +kernel
theorem dX11_wholeBy_44 : decode cX11_wholeBy 44 = .ok (.iload 7, 2) := by decide +kernel
theorem dX11_wholeBy_46 : decode cX11_wholeBy 46 = .ok (.iload 4, 2) := by decide +kernel
theorem dX11_wholeBy_48 : decode cX11_wholeBy 48 = .ok (.if_icmp .ne 10, 3) := by decide +kernel
theorem dX11_wholeBy_51 : decode cX11_wholeBy 51 = .ok (.iload 5, 2) := by decide +kernel
theorem dX11_wholeBy_53 : decode cX11_wholeBy 53 = .ok (.iconst 1, 1) := by decide +kernel
theorem dX11_wholeBy_54 : decode cX11_wholeBy 54 = .ok (.iadd, 1) := by decide +kernel
theorem dX11_wholeBy_55 : decode cX11_wholeBy 55 = .ok (.goto 4, 3) := by decide +kernel
theorem dX11_wholeBy_58 : decode cX11_wholeBy 58 = .ok (.iconst 1, 1) := by decide +kernel
theorem dX11_wholeBy_59 : decode cX11_wholeBy 59 = .ok (.istore 5, 2) := by decide +kernel
theorem dX11_wholeBy_61 : decode cX11_wholeBy 61 = .ok (.iload 7, 2) := by decide +kernel
theorem dX11_wholeBy_63 : decode cX11_wholeBy 63 = .ok (.istore 4, 2) := by decide +kernel
theorem dX11_wholeBy_65 : decode cX11_wholeBy 65 = .ok (.iload 7, 2) := by decide +kernel
theorem dX11_wholeBy_67 : decode cX11_wholeBy 67 = .ok (.ifCond .lt 22, 3) := by decide +kernel
theorem dX11_wholeBy_70 : decode cX11_wholeBy 70 = .ok (.iload 5, 2) := by decide +kernel
theorem dX11_wholeBy_72 : decode cX11_wholeBy 72 = .ok (.aload_n 0, 1) := by decide +kernel
theorem dX11_wholeBy_73 : decode cX11_wholeBy 73 = .ok (.getfield 38, 3) := by decide +kernel
theorem dX11_wholeBy_76 : decode cX11_wholeBy 76 = .ok (.iload 7, 2) := by decide +kernel
theorem dX11_wholeBy_78 : decode cX11_wholeBy 78 = .ok (.iaload, 1) := by decide +kernel
theorem dX11_wholeBy_79 : decode cX11_wholeBy 79 = .ok (.if_icmp .lt 10, 3) := by decide +kernel
theorem dX11_wholeBy_82 : decode cX11_wholeBy 82 = .ok (.iload_n 2, 1) := by decide +kernel
theorem dX11_wholeBy_83 : decode cX11_wholeBy 83 = .ok (.iconst 1, 1) := by decide +kernel
theorem dX11_wholeBy_84 : decode cX11_wholeBy 84 = .ok (.iload 7, 2) := by decide +kernel
theorem dX11_wholeBy_86 : decode cX11_wholeBy 86 = .ok (.ishl, 1) := by decide +kernel
theorem dX11_wholeBy_87 : decode cX11_wholeBy 87 = .ok (.ior, 1) := by decide +kernel
theorem dX11_wholeBy_88 : decode cX11_wholeBy 88 = .ok (.istore_n 2, 1) := by decide +kernel
theorem dX11_wholeBy_89 : decode cX11_wholeBy 89 = .ok (.iinc 6 1, 3) := by decide +kernel
theorem dX11_wholeBy_92 : decode cX11_wholeBy 92 = .ok (.goto (-69), 3) := by decide +kernel
theorem dX11_wholeBy_95 : decode cX11_wholeBy 95 = .ok (.iinc 3 1, 3) := by decide +kernel
theorem dX11_wholeBy_98 : decode cX11_wholeBy 98 = .ok (.goto (-94), 3) := by decide +kernel
theorem dX11_wholeBy_101 : decode cX11_wholeBy 101 = .ok (.iload_n 2, 1) := by decide +kernel
theorem dX11_wholeBy_102 : decode cX11_wholeBy 102 = .ok (.ireturn, 1) := by decide +kernel
theorem dX11_wholeNow_0 : decode cX11_wholeNow 0 = .ok (.aload_n 0, 1) := by decide +kernel
theorem dX11_wholeNow_1 : decode cX11_wholeNow 1 = .ok (.aload_n 0, 1) := by decide +kernel
theorem dX11_wholeNow_2 : decode cX11_wholeNow 2 = .ok (.aload_n 0, 1) := by decide +kernel
theorem dX11_wholeNow_3 : decode cX11_wholeNow 3 = .ok (.getfield 120, 3) := by decide +kernel
theorem dX11_wholeNow_6 : decode cX11_wholeNow 6 = .ok (.iconst 0, 1) := by decide +kernel
theorem dX11_wholeNow_7 : decode cX11_wholeNow 7 = .ok (.iaload, 1) := by decide +kernel
theorem dX11_wholeNow_8 : decode cX11_wholeNow 8 = .ok (.invokevirtual 367, 3) := by decide +kernel
theorem dX11_wholeNow_11 : decode cX11_wholeNow 11 = .ok (.invokevirtual 370, 3) := by decide +kernel
theorem dX11_wholeNow_14 : decode cX11_wholeNow 14 = .ok (.ireturn, 1) := by decide +kernel
theorem dX11_canWrite_0 : decode cX11_canWrite 0 = .ok (.aload_n 0, 1) := by decide +kernel
theorem dX11_canWrite_1 : decode cX11_canWrite 1 = .ok (.getfield 120, 3) := by decide +kernel
theorem dX11_canWrite_4 : decode cX11_canWrite 4 = .ok (.iconst 1, 1) := by decide +kernel
theorem dX11_canWrite_5 : decode cX11_canWrite 5 = .ok (.iload_n 2, 1) := by decide +kernel
theorem dX11_canWrite_6 : decode cX11_canWrite 6 = .ok (.iadd, 1) := by decide +kernel
theorem dX11_canWrite_7 : decode cX11_canWrite 7 = .ok (.iaload, 1) := by decide +kernel
theorem dX11_canWrite_8 : decode cX11_canWrite 8 = .ok (.ifCond .eq 20, 3) := by decide +kernel
theorem dX11_canWrite_11 : decode cX11_canWrite 11 = .ok (.iload_n 3, 1) := by decide +kernel
theorem dX11_canWrite_12 : decode cX11_canWrite 12 = .ok (.aload_n 0, 1) := by decide +kernel
theorem dX11_canWrite_13 : decode cX11_canWrite 13 = .ok (.getfield 38, 3) := by decide +kernel
theorem dX11_canWrite_16 : decode cX11_canWrite 16 = .ok (.iload_n 1, 1) := by decide +kernel
theorem dX11_canWrite_17 : decode cX11_canWrite 17 = .ok (.iaload, 1) := by decide +kernel
theorem dX11_canWrite_18 : decode cX11_canWrite 18 = .ok (.iadd, 1) := by decide +kernel
theorem dX11_canWrite_19 : decode cX11_canWrite 19 = .ok (.aload_n 0, 1) := by decide +kernel
theorem dX11_canWrite_20 : decode cX11_canWrite 20 = .ok (.getfield 23, 3) := by decide +kernel
theorem dX11_canWrite_23 : decode cX11_canWrite 23 = .ok (.iload_n 2, 1) := by decide +kernel
theorem dX11_canWrite_24 : decode cX11_canWrite 24 = .ok (.iaload, 1) := by decide +kernel
theorem dX11_canWrite_25 : decode cX11_canWrite 25 = .ok (.if_icmp .le 5, 3) := by decide +kernel
theorem dX11_canWrite_28 : decode cX11_canWrite 28 = .ok (.iconst 0, 1) := by decide +kernel
theorem dX11_canWrite_29 : decode cX11_canWrite 29 = .ok (.ireturn, 1) := by decide +kernel
theorem dX11_canWrite_30 : decode cX11_canWrite 30 = .ok (.iload_n 3, 1) := by decide +kernel
theorem dX11_canWrite_31 : decode cX11_canWrite 31 = .ok (.istore 4, 2) := by decide +kernel
theorem dX11_canWrite_33 : decode cX11_canWrite 33 = .ok (.iload 4, 2) := by decide +kernel
theorem dX11_canWrite_35 : decode cX11_canWrite 35 = .ok (.iload_n 3, 1) := by decide +kernel
theorem dX11_canWrite_36 : decode cX11_canWrite 36 = .ok (.aload_n 0, 1) := by decide +kernel
theorem dX11_canWrite_37 : decode cX11_canWrite 37 = .ok (.getfield 38, 3) := by decide +kernel
theorem dX11_canWrite_40 : decode cX11_canWrite 40 = .ok (.iload_n 1, 1) := by decide +kernel
theorem dX11_canWrite_41 : decode cX11_canWrite 41 = .ok (.iaload, 1) := by decide +kernel
theorem dX11_canWrite_42 : decode cX11_canWrite 42 = .ok (.iadd, 1) := by decide +kernel
theorem dX11_canWrite_43 : decode cX11_canWrite 43 = .ok (.if_icmp .ge 64, 3) := by decide +kernel
theorem dX11_canWrite_46 : decode cX11_canWrite 46 = .ok (.aload_n 0, 1) := by decide +kernel
theorem dX11_canWrite_47 : decode cX11_canWrite 47 = .ok (.getfield 29, 3) := by decide +kernel
theorem dX11_canWrite_50 : decode cX11_canWrite 50 = .ok (.iload_n 2, 1) := by decide +kernel
theorem dX11_canWrite_51 : decode cX11_canWrite 51 = .ok (.iaload, 1) := by decide +kernel
theorem dX11_canWrite_52 : decode cX11_canWrite 52 = .ok (.iload 4, 2) := by decide +kernel
theorem dX11_canWrite_54 : decode cX11_canWrite 54 = .ok (.ishr, 1) := by decide +kernel
theorem dX11_canWrite_55 : decode cX11_canWrite 55 = .ok (.iconst 1, 1) := by decide +kernel
theorem dX11_canWrite_56 : decode cX11_canWrite 56 = .ok (.iand, 1) := by decide +kernel
theorem dX11_canWrite_57 : decode cX11_canWrite 57 = .ok (.iconst 1, 1) := by decide +kernel
theorem dX11_canWrite_58 : decode cX11_canWrite 58 = .ok (.if_icmp .eq 41, 3) := by decide +kernel
theorem dX11_canWrite_61 : decode cX11_canWrite 61 = .ok (.aload_n 0, 1) := by decide +kernel
theorem dX11_canWrite_62 : decode cX11_canWrite 62 = .ok (.getfield 120, 3) := by decide +kernel
theorem dX11_canWrite_65 : decode cX11_canWrite 65 = .ok (.iconst 4, 1) := by decide +kernel
theorem dX11_canWrite_66 : decode cX11_canWrite 66 = .ok (.iload_n 2, 1) := by decide +kernel
theorem dX11_canWrite_67 : decode cX11_canWrite 67 = .ok (.iadd, 1) := by decide +kernel
theorem dX11_canWrite_68 : decode cX11_canWrite 68 = .ok (.iaload, 1) := by decide +kernel
theorem dX11_canWrite_69 : decode cX11_canWrite 69 = .ok (.iload 4, 2) := by decide +kernel
theorem dX11_canWrite_71 : decode cX11_canWrite 71 = .ok (.ishr, 1) := by decide +kernel
theorem dX11_canWrite_72 : decode cX11_canWrite 72 = .ok (.iconst 1, 1) := by decide +kernel
theorem dX11_canWrite_73 : decode cX11_canWrite 73 = .ok (.iand, 1) := by decide +kernel
theorem dX11_canWrite_74 : decode cX11_canWrite 74 = .ok (.iconst 1, 1) := by decide +kernel
theorem dX11_canWrite_75 : decode cX11_canWrite 75 = .ok (.if_icmp .eq 24, 3) := by decide +kernel
theorem dX11_canWrite_78 : decode cX11_canWrite 78 = .ok (.aload_n 0, 1) := by decide +kernel
theorem dX11_canWrite_79 : decode cX11_canWrite 79 = .ok (.getfield 120, 3) := by decide +kernel
theorem dX11_canWrite_82 : decode cX11_canWrite 82 = .ok (.bipush 7, 2) := by decide +kernel
theorem dX11_canWrite_84 : decode cX11_canWrite 84 = .ok (.bipush 6, 2) := by decide +kernel
theorem dX11_canWrite_86 : decode cX11_canWrite 86 = .ok (.iload_n 2, 1) := by decide +kernel
theorem dX11_canWrite_87 : decode cX11_canWrite 87 = .ok (.imul, 1) := by decide +kernel
theorem dX11_canWrite_88 : decode cX11_canWrite 88 = .ok (.iadd, 1) := by decide +kernel
theorem dX11_canWrite_89 : decode cX11_canWrite 89 = .ok (.iload 4, 2) := by decide +kernel
theorem dX11_canWrite_91 : decode cX11_canWrite 91 = .ok (.iadd, 1) := by decide +kernel
theorem dX11_canWrite_92 : decode cX11_canWrite 92 = .ok (.iaload, 1) := by decide +kernel
theorem dX11_canWrite_93 : decode cX11_canWrite 93 = .ok (.ldc_w 373, 3) := by decide +kernel
theorem dX11_canWrite_96 : decode cX11_canWrite 96 = .ok (.if_icmp .lt 5, 3) := by decide +kernel
theorem dX11_canWrite_99 : decode cX11_canWrite 99 = .ok (.iconst 0, 1) := by decide +kernel
theorem dX11_canWrite_100 : decode cX11_canWrite 100 = .ok (.ireturn, 1) := by decide +kernel
theorem dX11_canWrite_101 : decode cX11_canWrite 101 = .ok (.iinc 4 1, 3) := by decide +kernel
theorem dX11_canWrite_104 : decode cX11_canWrite 104 = .ok (.goto (-71), 3) := by decide +kernel
theorem dX11_canWrite_107 : decode cX11_canWrite 107 = .ok (.iconst 1, 1) := by decide +kernel
theorem dX11_canWrite_108 : decode cX11_canWrite 108 = .ok (.ireturn, 1) := by decide +kernel
theorem dX11_writes_0 : decode cX11_writes 0 = .ok (.iload_n 3, 1) := by decide +kernel
theorem dX11_writes_1 : decode cX11_writes 1 = .ok (.istore 4, 2) := by decide +kernel
theorem dX11_writes_3 : decode cX11_writes 3 = .ok (.iload 4, 2) := by decide +kernel
theorem dX11_writes_5 : decode cX11_writes 5 = .ok (.iload_n 3, 1) := by decide +kernel
theorem dX11_writes_6 : decode cX11_writes 6 = .ok (.aload_n 0, 1) := by decide +kernel
theorem dX11_writes_7 : decode cX11_writes 7 = .ok (.getfield 38, 3) := by decide +kernel
theorem dX11_writes_10 : decode cX11_writes 10 = .ok (.iload_n 1, 1) := by decide +kernel
theorem dX11_writes_11 : decode cX11_writes 11 = .ok (.iaload, 1) := by decide +kernel
theorem dX11_writes_12 : decode cX11_writes 12 = .ok (.iadd, 1) := by decide +kernel
theorem dX11_writes_13 : decode cX11_writes 13 = .ok (.if_icmp .ge 61, 3) := by decide +kernel
theorem dX11_writes_16 : decode cX11_writes 16 = .ok (.aload_n 0, 1) := by decide +kernel
theorem dX11_writes_17 : decode cX11_writes 17 = .ok (.getfield 120, 3) := by decide +kernel
theorem dX11_writes_20 : decode cX11_writes 20 = .ok (.bipush 7, 2) := by decide +kernel
theorem dX11_writes_22 : decode cX11_writes 22 = .ok (.bipush 6, 2) := by decide +kernel
theorem dX11_writes_24 : decode cX11_writes 24 = .ok (.iload_n 2, 1) := by decide +kernel
theorem dX11_writes_25 : decode cX11_writes 25 = .ok (.imul, 1) := by decide +kernel
theorem dX11_writes_26 : decode cX11_writes 26 = .ok (.iadd, 1) := by decide +kernel
theorem dX11_writes_27 : decode cX11_writes 27 = .ok (.iload 4, 2) := by decide +kernel
theorem dX11_writes_29 : decode cX11_writes 29 = .ok (.iadd, 1) := by decide +kernel
theorem dX11_writes_30 : decode cX11_writes 30 = .ok (.aload_n 0, 1) := by decide +kernel
theorem dX11_writes_31 : decode cX11_writes 31 = .ok (.getfield 120, 3) := by decide +kernel
theorem dX11_writes_34 : decode cX11_writes 34 = .ok (.bipush 7, 2) := by decide +kernel
theorem dX11_writes_36 : decode cX11_writes 36 = .ok (.bipush 6, 2) := by decide +kernel
theorem dX11_writes_38 : decode cX11_writes 38 = .ok (.iload_n 2, 1) := by decide +kernel
theorem dX11_writes_39 : decode cX11_writes 39 = .ok (.imul, 1) := by decide +kernel
theorem dX11_writes_40 : decode cX11_writes 40 = .ok (.iadd, 1) := by decide +kernel
theorem dX11_writes_41 : decode cX11_writes 41 = .ok (.iload 4, 2) := by decide +kernel
theorem dX11_writes_43 : decode cX11_writes 43 = .ok (.iadd, 1) := by decide +kernel
theorem dX11_writes_44 : decode cX11_writes 44 = .ok (.iaload, 1) := by decide +kernel
theorem dX11_writes_45 : decode cX11_writes 45 = .ok (.bipush 7, 2) := by decide +kernel
theorem dX11_writes_47 : decode cX11_writes 47 = .ok (.imul, 1) := by decide +kernel
theorem dX11_writes_48 : decode cX11_writes 48 = .ok (.iload_n 1, 1) := by decide +kernel
theorem dX11_writes_49 : decode cX11_writes 49 = .ok (.iadd, 1) := by decide +kernel
theorem dX11_writes_50 : decode cX11_writes 50 = .ok (.iconst 1, 1) := by decide +kernel
theorem dX11_writes_51 : decode cX11_writes 51 = .ok (.iadd, 1) := by decide +kernel
theorem dX11_writes_52 : decode cX11_writes 52 = .ok (.iastore, 1) := by decide +kernel
theorem dX11_writes_53 : decode cX11_writes 53 = .ok (.aload_n 0, 1) := by decide +kernel
theorem dX11_writes_54 : decode cX11_writes 54 = .ok (.getfield 120, 3) := by decide +kernel
theorem dX11_writes_57 : decode cX11_writes 57 = .ok (.iconst 4, 1) := by decide +kernel
theorem dX11_writes_58 : decode cX11_writes 58 = .ok (.iload_n 2, 1) := by decide +kernel
theorem dX11_writes_59 : decode cX11_writes 59 = .ok (.iadd, 1) := by decide +kernel
theorem dX11_writes_60 : decode cX11_writes 60 = .ok (.dup2, 1) := by decide +kernel
theorem dX11_writes_61 : decode cX11_writes 61 = .ok (.iaload, 1) := by decide +kernel
theorem dX11_writes_62 : decode cX11_writes 62 = .ok (.iconst 1, 1) := by decide +kernel
theorem dX11_writes_63 : decode cX11_writes 63 = .ok (.iload 4, 2) := by decide +kernel
theorem dX11_writes_65 : decode cX11_writes 65 = .ok (.ishl, 1) := by decide +kernel
theorem dX11_writes_66 : decode cX11_writes 66 = .ok (.ior, 1) := by decide +kernel
theorem dX11_writes_67 : decode cX11_writes 67 = .ok (.iastore, 1) := by decide +kernel
theorem dX11_writes_68 : decode cX11_writes 68 = .ok (.iinc 4 1, 3) := by decide +kernel
theorem dX11_writes_71 : decode cX11_writes 71 = .ok (.goto (-68), 3) := by decide +kernel
theorem dX11_writes_74 : decode cX11_writes 74 = .ok (.return_, 1) := by decide +kernel
theorem dX11_scrapedBy_0 : decode cX11_scrapedBy 0 = .ok (.aload_n 0, 1) := by decide +kernel
theorem dX11_scrapedBy_1 : decode cX11_scrapedBy 1 = .ok (.getfield 120, 3) := by decide +kernel
theorem dX11_scrapedBy_4 : decode cX11_scrapedBy 4 = .ok (.iconst 4, 1) := by decide +kernel
theorem dX11_scrapedBy_5 : decode cX11_scrapedBy 5 = .ok (.iload_n 1, 1) := by decide +kernel
theorem dX11_scrapedBy_6 : decode cX11_scrapedBy 6 = .ok (.iadd, 1) := by decide +kernel
theorem dX11_scrapedBy_7 : decode cX11_scrapedBy 7 = .ok (.iaload, 1) := by decide +kernel
theorem dX11_scrapedBy_8 : decode cX11_scrapedBy 8 = .ok (.iload_n 2, 1) := by decide +kernel
theorem dX11_scrapedBy_9 : decode cX11_scrapedBy 9 = .ok (.iand, 1) := by decide +kernel
theorem dX11_scrapedBy_10 : decode cX11_scrapedBy 10 = .ok (.istore_n 3, 1) := by decide +kernel
theorem dX11_scrapedBy_11 : decode cX11_scrapedBy 11 = .ok (.iconst 0, 1) := by decide +kernel
theorem dX11_scrapedBy_12 : decode cX11_scrapedBy 12 = .ok (.istore 4, 2) := by decide +kernel
theorem dX11_scrapedBy_14 : decode cX11_scrapedBy 14 = .ok (.iconst 0, 1) := by decide +kernel
theorem dX11_scrapedBy_15 : decode cX11_scrapedBy 15 = .ok (.istore 5, 2) := by decide +kernel
theorem dX11_scrapedBy_17 : decode cX11_scrapedBy 17 = .ok (.iconst 0, 1) := by decide +kernel
theorem dX11_scrapedBy_18 : decode cX11_scrapedBy 18 = .ok (.istore 6, 2) := by decide +kernel
theorem dX11_scrapedBy_20 : decode cX11_scrapedBy 20 = .ok (.iload 6, 2) := by decide +kernel
theorem dX11_scrapedBy_22 : decode cX11_scrapedBy 22 = .ok (.bipush 6, 2) := by decide +kernel
theorem dX11_scrapedBy_24 : decode cX11_scrapedBy 24 = .ok (.if_icmp .ge 76, 3) := by decide +kernel
theorem dX11_scrapedBy_27 : decode cX11_scrapedBy 27 = .ok (.iload_n 3, 1) := by decide +kernel
theorem dX11_scrapedBy_28 : decode cX11_scrapedBy 28 = .ok (.iload 6, 2) := by decide +kernel
theorem dX11_scrapedBy_30 : decode cX11_scrapedBy 30 = .ok (.ishr, 1) := by decide +kernel
theorem dX11_scrapedBy_31 : decode cX11_scrapedBy 31 = .ok (.iconst 1, 1) := by decide +kernel
theorem dX11_scrapedBy_32 : decode cX11_scrapedBy 32 = .ok (.iand, 1) := by decide +kernel
theorem dX11_scrapedBy_33 : decode cX11_scrapedBy 33 = .ok (.ifCond .ne 6, 3) := by decide +kernel
theorem dX11_scrapedBy_36 : decode cX11_scrapedBy 36 = .ok (.goto 58, 3) := by decide +kernel
theorem dX11_scrapedBy_39 : decode cX11_scrapedBy 39 = .ok (.aload_n 0, 1) := by decide +kernel
theorem dX11_scrapedBy_40 : decode cX11_scrapedBy 40 = .ok (.getfield 120, 3) := by decide +kernel
theorem dX11_scrapedBy_43 : decode cX11_scrapedBy 43 = .ok (.bipush 7, 2) := by decide +kernel
theorem dX11_scrapedBy_45 : decode cX11_scrapedBy 45 = .ok (.bipush 6, 2) := by decide +kernel
theorem dX11_scrapedBy_47 : decode cX11_scrapedBy 47 = .ok (.iload_n 1, 1) := by decide +kernel
theorem dX11_scrapedBy_48 : decode cX11_scrapedBy 48 = .ok (.imul, 1) := by decide +kernel
theorem dX11_scrapedBy_49 : decode cX11_scrapedBy 49 = .ok (.iadd, 1) := by decide +kernel
theorem dX11_scrapedBy_50 : decode cX11_scrapedBy 50 = .ok (.iload 6, 2) := by decide +kernel
theorem dX11_scrapedBy_52 : decode cX11_scrapedBy 52 = .ok (.iadd, 1) := by decide +kernel
theorem dX11_scrapedBy_53 : decode cX11_scrapedBy 53 = .ok (.iaload, 1) := by decide +kernel
theorem dX11_scrapedBy_54 : decode cX11_scrapedBy 54 = .ok (.bipush 7, 2) := by decide +kernel
theorem dX11_scrapedBy_56 : decode cX11_scrapedBy 56 = .ok (.irem, 1) := by decide +kernel
theorem dX11_scrapedBy_57 : decode cX11_scrapedBy 57 = .ok (.iconst 1, 1) := by decide +kernel
theorem dX11_scrapedBy_58 : decode cX11_scrapedBy 58 = .ok (.isub, 1) := by decide +kernel
theorem dX11_scrapedBy_59 : decode cX11_scrapedBy 59 = .ok (.istore 7, 2) := by decide +kernel
theorem dX11_scrapedBy_61 : decode cX11_scrapedBy 61 = .ok (.iload 4, 2) := by decide +kernel
theorem dX11_scrapedBy_63 : decode cX11_scrapedBy 63 = .ok (.aload_n 0, 1) := by decide +kernel
theorem dX11_scrapedBy_64 : decode cX11_scrapedBy 64 = .ok (.getfield 35, 3) := by decide +kernel
theorem dX11_scrapedBy_67 : decode cX11_scrapedBy 67 = .ok (.iload 7, 2) := by decide +kernel
theorem dX11_scrapedBy_69 : decode cX11_scrapedBy 69 = .ok (.iaload, 1) := by decide +kernel
theorem dX11_scrapedBy_70 : decode cX11_scrapedBy 70 = .ok (.ior, 1) := by decide +kernel
theorem dX11_scrapedBy_71 : decode cX11_scrapedBy 71 = .ok (.istore 4, 2) := by decide +kernel
theorem dX11_scrapedBy_73 : decode cX11_scrapedBy 73 = .ok (.iload 5, 2) := by decide +kernel
theorem dX11_scrapedBy_75 : decode cX11_scrapedBy 75 = .ok (.aload_n 0, 1) := by decide +kernel
theorem dX11_scrapedBy_76 : decode cX11_scrapedBy 76 = .ok (.getfield 32, 3) := by decide +kernel
theorem dX11_scrapedBy_79 : decode cX11_scrapedBy 79 = .ok (.iload 7, 2) := by decide +kernel
theorem dX11_scrapedBy_81 : decode cX11_scrapedBy 81 = .ok (.iaload, 1) := by decide +kernel
theorem dX11_scrapedBy_82 : decode cX11_scrapedBy 82 = .ok (.iconst 3, 1) := by decide +kernel
theorem dX11_scrapedBy_83 : decode cX11_scrapedBy 83 = .ok (.if_icmp .ne 7, 3) := by decide +kernel
theorem dX11_scrapedBy_86 : decode cX11_scrapedBy 86 = .ok (.iconst 1, 1) := by decide +kernel
theorem dX11_scrapedBy_87 : decode cX11_scrapedBy 87 = .ok (.goto 4, 3) := by decide +kernel
theorem dX11_scrapedBy_90 : decode cX11_scrapedBy 90 = .ok (.iconst 0, 1) := by decide +kernel
theorem dX11_scrapedBy_91 : decode cX11_scrapedBy 91 = .ok (.ior, 1) := by decide +kernel
theorem dX11_scrapedBy_92 : decode cX11_scrapedBy 92 = .ok (.istore 5, 2) := by decide +kernel
theorem dX11_scrapedBy_94 : decode cX11_scrapedBy 94 = .ok (.iinc 6 1, 3) := by decide +kernel
theorem dX11_scrapedBy_97 : decode cX11_scrapedBy 97 = .ok (.goto (-77), 3) := by decide +kernel
theorem dX11_scrapedBy_100 : decode cX11_scrapedBy 100 = .ok (.iload_n 3, 1) := by decide +kernel
theorem dX11_scrapedBy_101 : decode cX11_scrapedBy 101 = .ok (.ifCond .ne 7, 3) := by decide +kernel
theorem dX11_scrapedBy_104 : decode cX11_scrapedBy 104 = .ok (.iconst 0, 1) := by decide +kernel
theorem dX11_scrapedBy_105 : decode cX11_scrapedBy 105 = .ok (.goto 10, 3) := by decide +kernel
theorem dX11_scrapedBy_108 : decode cX11_scrapedBy 108 = .ok (.iconst 1, 1) := by decide +kernel
theorem dX11_scrapedBy_109 : decode cX11_scrapedBy 109 = .ok (.iload 4, 2) := by decide +kernel
theorem dX11_scrapedBy_111 : decode cX11_scrapedBy 111 = .ok (.iadd, 1) := by decide +kernel
theorem dX11_scrapedBy_112 : decode cX11_scrapedBy 112 = .ok (.iload 5, 2) := by decide +kernel
theorem dX11_scrapedBy_114 : decode cX11_scrapedBy 114 = .ok (.iadd, 1) := by decide +kernel
theorem dX11_scrapedBy_115 : decode cX11_scrapedBy 115 = .ok (.ireturn, 1) := by decide +kernel
theorem dX11_scrapes_0 : decode cX11_scrapes 0 = .ok (.aload_n 0, 1) := by decide +kernel
theorem dX11_scrapes_1 : decode cX11_scrapes 1 = .ok (.getfield 120, 3) := by decide +kernel
theorem dX11_scrapes_4 : decode cX11_scrapes 4 = .ok (.iconst 1, 1) := by decide +kernel
theorem dX11_scrapes_5 : decode cX11_scrapes 5 = .ok (.iload_n 1, 1) := by decide +kernel
theorem dX11_scrapes_6 : decode cX11_scrapes 6 = .ok (.iadd, 1) := by decide +kernel
theorem dX11_scrapes_7 : decode cX11_scrapes 7 = .ok (.dup2, 1) := by decide +kernel
theorem dX11_scrapes_8 : decode cX11_scrapes 8 = .ok (.iaload, 1) := by decide +kernel
theorem dX11_scrapes_9 : decode cX11_scrapes 9 = .ok (.aload_n 0, 1) := by decide +kernel
theorem dX11_scrapes_10 : decode cX11_scrapes 10 = .ok (.iload_n 1, 1) := by decide +kernel
theorem dX11_scrapes_11 : decode cX11_scrapes 11 = .ok (.iload_n 2, 1) := by decide +kernel
theorem dX11_scrapes_12 : decode cX11_scrapes 12 = .ok (.invokevirtual 374, 3) := by decide +kernel
theorem dX11_scrapes_15 : decode cX11_scrapes 15 = .ok (.isub, 1) := by decide +kernel
theorem dX11_scrapes_16 : decode cX11_scrapes 16 = .ok (.iastore, 1) := by decide +kernel
theorem dX11_scrapes_17 : decode cX11_scrapes 17 = .ok (.aload_n 0, 1) := by decide +kernel
theorem dX11_scrapes_18 : decode cX11_scrapes 18 = .ok (.getfield 120, 3) := by decide +kernel
theorem dX11_scrapes_21 : decode cX11_scrapes 21 = .ok (.iconst 4, 1) := by decide +kernel
theorem dX11_scrapes_22 : decode cX11_scrapes 22 = .ok (.iload_n 1, 1) := by decide +kernel
theorem dX11_scrapes_23 : decode cX11_scrapes 23 = .ok (.iadd, 1) := by decide +kernel
theorem dX11_scrapes_24 : decode cX11_scrapes 24 = .ok (.dup2, 1) := by decide +kernel
theorem dX11_scrapes_25 : decode cX11_scrapes 25 = .ok (.iaload, 1) := by decide +kernel
theorem dX11_scrapes_26 : decode cX11_scrapes 26 = .ok (.iload_n 2, 1) := by decide +kernel
theorem dX11_scrapes_27 : decode cX11_scrapes 27 = .ok (.iconst (-1), 1) := by decide +kernel
theorem dX11_scrapes_28 : decode cX11_scrapes 28 = .ok (.ixor, 1) := by decide +kernel
theorem dX11_scrapes_29 : decode cX11_scrapes 29 = .ok (.iand, 1) := by decide +kernel
theorem dX11_scrapes_30 : decode cX11_scrapes 30 = .ok (.iastore, 1) := by decide +kernel
theorem dX11_scrapes_31 : decode cX11_scrapes 31 = .ok (.aload_n 0, 1) := by decide +kernel
theorem dX11_scrapes_32 : decode cX11_scrapes 32 = .ok (.getfield 120, 3) := by decide +kernel
theorem dX11_scrapes_35 : decode cX11_scrapes 35 = .ok (.iconst 1, 1) := by decide +kernel
theorem dX11_scrapes_36 : decode cX11_scrapes 36 = .ok (.iload_n 1, 1) := by decide +kernel
theorem dX11_scrapes_37 : decode cX11_scrapes 37 = .ok (.iadd, 1) := by decide +kernel
theorem dX11_scrapes_38 : decode cX11_scrapes 38 = .ok (.iaload, 1) := by decide +kernel
theorem dX11_scrapes_39 : decode cX11_scrapes 39 = .ok (.ifCond .le 4, 3) := by decide +kernel
theorem dX11_scrapes_42 : decode cX11_scrapes 42 = .ok (.return_, 1) := by decide +kernel
theorem dX11_scrapes_43 : decode cX11_scrapes 43 = .ok (.aload_n 0, 1) := by decide +kernel
theorem dX11_scrapes_44 : decode cX11_scrapes 44 = .ok (.getfield 120, 3) := by decide +kernel
theorem dX11_scrapes_47 : decode cX11_scrapes 47 = .ok (.iconst 1, 1) := by decide +kernel
theorem dX11_scrapes_48 : decode cX11_scrapes 48 = .ok (.iload_n 1, 1) := by decide +kernel
theorem dX11_scrapes_49 : decode cX11_scrapes 49 = .ok (.iadd, 1) := by decide +kernel
theorem dX11_scrapes_50 : decode cX11_scrapes 50 = .ok (.iconst 0, 1) := by decide +kernel
theorem dX11_scrapes_51 : decode cX11_scrapes 51 = .ok (.iastore, 1) := by decide +kernel
theorem dX11_scrapes_52 : decode cX11_scrapes 52 = .ok (.aload_n 0, 1) := by decide +kernel
theorem dX11_scrapes_53 : decode cX11_scrapes 53 = .ok (.getfield 120, 3) := by decide +kernel
theorem dX11_scrapes_56 : decode cX11_scrapes 56 = .ok (.iconst 4, 1) := by decide +kernel
theorem dX11_scrapes_57 : decode cX11_scrapes 57 = .ok (.iload_n 1, 1) := by decide +kernel
theorem dX11_scrapes_58 : decode cX11_scrapes 58 = .ok (.iadd, 1) := by decide +kernel
theorem dX11_scrapes_59 : decode cX11_scrapes 59 = .ok (.iconst 0, 1) := by decide +kernel
theorem dX11_scrapes_60 : decode cX11_scrapes 60 = .ok (.iastore, 1) := by decide +kernel
theorem dX11_scrapes_61 : decode cX11_scrapes 61 = .ok (.iconst 0, 1) := by decide +kernel
theorem dX11_scrapes_62 : decode cX11_scrapes 62 = .ok (.istore_n 3, 1) := by decide +kernel
theorem dX11_scrapes_63 : decode cX11_scrapes 63 = .ok (.iload_n 3, 1) := by decide +kernel
theorem dX11_scrapes_64 : decode cX11_scrapes 64 = .ok (.bipush 6, 2) := by decide +kernel
theorem dX11_scrapes_66 : decode cX11_scrapes 66 = .ok (.if_icmp .ge 24, 3) := by decide +kernel
theorem dX11_scrapes_69 : decode cX11_scrapes 69 = .ok (.aload_n 0, 1) := by decide +kernel
theorem dX11_scrapes_70 : decode cX11_scrapes 70 = .ok (.getfield 120, 3) := by decide +kernel
theorem dX11_scrapes_73 : decode cX11_scrapes 73 = .ok (.bipush 7, 2) := by decide +kernel
theorem dX11_scrapes_75 : decode cX11_scrapes 75 = .ok (.bipush 6, 2) := by decide +kernel
theorem dX11_scrapes_77 : decode cX11_scrapes 77 = .ok (.iload_n 1, 1) := by decide +kernel
theorem dX11_scrapes_78 : decode cX11_scrapes 78 = .ok (.imul, 1) := by decide +kernel
theorem dX11_scrapes_79 : decode cX11_scrapes 79 = .ok (.iadd, 1) := by decide +kernel
theorem dX11_scrapes_80 : decode cX11_scrapes 80 = .ok (.iload_n 3, 1) := by decide +kernel
theorem dX11_scrapes_81 : decode cX11_scrapes 81 = .ok (.iadd, 1) := by decide +kernel
theorem dX11_scrapes_82 : decode cX11_scrapes 82 = .ok (.iconst 0, 1) := by decide +kernel
theorem dX11_scrapes_83 : decode cX11_scrapes 83 = .ok (.iastore, 1) := by decide +kernel
theorem dX11_scrapes_84 : decode cX11_scrapes 84 = .ok (.iinc 3 1, 3) := by decide +kernel
theorem dX11_scrapes_87 : decode cX11_scrapes 87 = .ok (.goto (-24), 3) := by decide +kernel
theorem dX11_scrapes_90 : decode cX11_scrapes 90 = .ok (.return_, 1) := by decide +kernel
theorem dX11_placeOf_0 : decode cX11_placeOf 0 = .ok (.iconst 0, 1) := by decide +kernel
theorem dX11_placeOf_1 : decode cX11_placeOf 1 = .ok (.istore_n 3, 1) := by decide +kernel
theorem dX11_placeOf_2 : decode cX11_placeOf 2 = .ok (.iload_n 3, 1) := by decide +kernel
theorem dX11_placeOf_3 : decode cX11_placeOf 3 = .ok (.aload_n 0, 1) := by decide +kernel
theorem dX11_placeOf_4 : decode cX11_placeOf 4 = .ok (.getfield 23, 3) := by decide +kernel
theorem dX11_placeOf_7 : decode cX11_placeOf 7 = .ok (.iload_n 2, 1) := by decide +kernel
theorem dX11_placeOf_8 : decode cX11_placeOf 8 = .ok (.iaload, 1) := by decide +kernel
theorem dX11_placeOf_9 : decode cX11_placeOf 9 = .ok (.if_icmp .ge 21, 3) := by decide +kernel
theorem dX11_placeOf_12 : decode cX11_placeOf 12 = .ok (.aload_n 0, 1) := by decide +kernel
theorem dX11_placeOf_13 : decode cX11_placeOf 13 = .ok (.iload_n 1, 1) := by decide +kernel
theorem dX11_placeOf_14 : decode cX11_placeOf 14 = .ok (.iload_n 2, 1) := by decide +kernel
theorem dX11_placeOf_15 : decode cX11_placeOf 15 = .ok (.iload_n 3, 1) := by decide +kernel
theorem dX11_placeOf_16 : decode cX11_placeOf 16 = .ok (.invokevirtual 378, 3) := by decide +kernel
theorem dX11_placeOf_19 : decode cX11_placeOf 19 = .ok (.ifCond .eq 5, 3) := by decide +kernel
theorem dX11_placeOf_22 : decode cX11_placeOf 22 = .ok (.iload_n 3, 1) := by decide +kernel
theorem dX11_placeOf_23 : decode cX11_placeOf 23 = .ok (.ireturn, 1) := by decide +kernel
theorem dX11_placeOf_24 : decode cX11_placeOf 24 = .ok (.iinc 3 1, 3) := by decide +kernel
theorem dX11_placeOf_27 : decode cX11_placeOf 27 = .ok (.goto (-25), 3) := by decide +kernel
theorem dX11_placeOf_30 : decode cX11_placeOf 30 = .ok (.iconst (-1), 1) := by decide +kernel
theorem dX11_placeOf_31 : decode cX11_placeOf 31 = .ok (.ireturn, 1) := by decide +kernel
theorem dX11_readIn_0 : decode cX11_readIn 0 = .ok (.iconst 0, 1) := by decide +kernel
theorem dX11_readIn_1 : decode cX11_readIn 1 = .ok (.istore_n 3, 1) := by decide +kernel
theorem dX11_readIn_2 : decode cX11_readIn 2 = .ok (.iconst 0, 1) := by decide +kernel
theorem dX11_readIn_3 : decode cX11_readIn 3 = .ok (.istore 4, 2) := by decide +kernel
theorem dX11_readIn_5 : decode cX11_readIn 5 = .ok (.iload 4, 2) := by decide +kernel
theorem dX11_readIn_7 : decode cX11_readIn 7 = .ok (.aload_n 0, 1) := by decide +kernel
theorem dX11_readIn_8 : decode cX11_readIn 8 = .ok (.getfield 23, 3) := by decide +kernel
theorem dX11_readIn_11 : decode cX11_readIn 11 = .ok (.iload_n 1, 1) := by decide +kernel
theorem dX11_readIn_12 : decode cX11_readIn 12 = .ok (.iaload, 1) := by decide +kernel
theorem dX11_readIn_13 : decode cX11_readIn 13 = .ok (.if_icmp .ge 54, 3) := by decide +kernel
theorem dX11_readIn_16 : decode cX11_readIn 16 = .ok (.aload_n 0, 1) := by decide +kernel
theorem dX11_readIn_17 : decode cX11_readIn 17 = .ok (.iload_n 1, 1) := by decide +kernel
theorem dX11_readIn_18 : decode cX11_readIn 18 = .ok (.iload 4, 2) := by decide +kernel
theorem dX11_readIn_20 : decode cX11_readIn 20 = .ok (.aload_n 0, 1) := by decide +kernel
theorem dX11_readIn_21 : decode cX11_readIn 21 = .ok (.aload_n 0, 1) := by decide +kernel
theorem dX11_readIn_22 : decode cX11_readIn 22 = .ok (.getfield 120, 3) := by decide +kernel
theorem dX11_readIn_25 : decode cX11_readIn 25 = .ok (.iconst 0, 1) := by decide +kernel
theorem dX11_readIn_26 : decode cX11_readIn 26 = .ok (.iaload, 1) := by decide +kernel
theorem dX11_readIn_27 : decode cX11_readIn 27 = .ok (.invokevirtual 367, 3) := by decide +kernel
theorem dX11_readIn_30 : decode cX11_readIn 30 = .ok (.invokevirtual 363, 3) := by decide +kernel
theorem dX11_readIn_33 : decode cX11_readIn 33 = .ok (.istore 5, 2) := by decide +kernel
theorem dX11_readIn_35 : decode cX11_readIn 35 = .ok (.iload_n 3, 1) := by decide +kernel
theorem dX11_readIn_36 : decode cX11_readIn 36 = .ok (.iload 5, 2) := by decide +kernel
theorem dX11_readIn_38 : decode cX11_readIn 38 = .ok (.ifCond .lt 20, 3) := by decide +kernel
theorem dX11_readIn_41 : decode cX11_readIn 41 = .ok (.iload_n 2, 1) := by decide +kernel
theorem dX11_readIn_42 : decode cX11_readIn 42 = .ok (.ifCond .lt 9, 3) := by decide +kernel
theorem dX11_readIn_45 : decode cX11_readIn 45 = .ok (.iload 5, 2) := by decide +kernel
theorem dX11_readIn_47 : decode cX11_readIn 47 = .ok (.iload_n 2, 1) := by decide +kernel
theorem dX11_readIn_48 : decode cX11_readIn 48 = .ok (.if_icmp .ne 10, 3) := by decide +kernel
theorem dX11_readIn_51 : decode cX11_readIn 51 = .ok (.iconst 1, 1) := by decide +kernel
theorem dX11_readIn_52 : decode cX11_readIn 52 = .ok (.iload 4, 2) := by decide +kernel
theorem dX11_readIn_54 : decode cX11_readIn 54 = .ok (.ishl, 1) := by decide +kernel
theorem dX11_readIn_55 : decode cX11_readIn 55 = .ok (.goto 4, 3) := by decide +kernel
theorem dX11_readIn_58 : decode cX11_readIn 58 = .ok (.iconst 0, 1) := by decide +kernel
theorem dX11_readIn_59 : decode cX11_readIn 59 = .ok (.ior, 1) := by decide +kernel
theorem dX11_readIn_60 : decode cX11_readIn 60 = .ok (.istore_n 3, 1) := by decide +kernel
theorem dX11_readIn_61 : decode cX11_readIn 61 = .ok (.iinc 4 1, 3) := by decide +kernel
theorem dX11_readIn_64 : decode cX11_readIn 64 = .ok (.goto (-59), 3) := by decide +kernel
theorem dX11_readIn_67 : decode cX11_readIn 67 = .ok (.iload_n 3, 1) := by decide +kernel
theorem dX11_readIn_68 : decode cX11_readIn 68 = .ok (.ireturn, 1) := by decide +kernel
theorem dX11_madeOf_0 : decode cX11_madeOf 0 = .ok (.iconst 0, 1) := by decide +kernel
theorem dX11_madeOf_1 : decode cX11_madeOf 1 = .ok (.istore_n 2, 1) := by decide +kernel
theorem dX11_madeOf_2 : decode cX11_madeOf 2 = .ok (.iconst 0, 1) := by decide +kernel
theorem dX11_madeOf_3 : decode cX11_madeOf 3 = .ok (.istore_n 3, 1) := by decide +kernel
theorem dX11_madeOf_4 : decode cX11_madeOf 4 = .ok (.iload_n 3, 1) := by decide +kernel
theorem dX11_madeOf_5 : decode cX11_madeOf 5 = .ok (.aload_n 0, 1) := by decide +kernel
theorem dX11_madeOf_6 : decode cX11_madeOf 6 = .ok (.getfield 13, 3) := by decide +kernel
theorem dX11_madeOf_9 : decode cX11_madeOf 9 = .ok (.iconst 0, 1) := by decide +kernel
theorem dX11_madeOf_10 : decode cX11_madeOf 10 = .ok (.iaload, 1) := by decide +kernel
theorem dX11_madeOf_11 : decode cX11_madeOf 11 = .ok (.if_icmp .ge 21, 3) := by decide +kernel
theorem dX11_madeOf_14 : decode cX11_madeOf 14 = .ok (.iload_n 2, 1) := by decide +kernel
theorem dX11_madeOf_15 : decode cX11_madeOf 15 = .ok (.aload_n 0, 1) := by decide +kernel
theorem dX11_madeOf_16 : decode cX11_madeOf 16 = .ok (.iload_n 3, 1) := by decide +kernel
theorem dX11_madeOf_17 : decode cX11_madeOf 17 = .ok (.iload_n 1, 1) := by decide +kernel
theorem dX11_madeOf_18 : decode cX11_madeOf 18 = .ok (.invokevirtual 381, 3) := by decide +kernel
theorem dX11_madeOf_21 : decode cX11_madeOf 21 = .ok (.invokestatic 384, 3) := by decide +kernel
theorem dX11_madeOf_24 : decode cX11_madeOf 24 = .ok (.iadd, 1) := by decide +kernel
theorem dX11_madeOf_25 : decode cX11_madeOf 25 = .ok (.istore_n 2, 1) := by decide +kernel
theorem dX11_madeOf_26 : decode cX11_madeOf 26 = .ok (.iinc 3 1, 3) := by decide +kernel
theorem dX11_madeOf_29 : decode cX11_madeOf 29 = .ok (.goto (-25), 3) := by decide +kernel
theorem dX11_madeOf_32 : decode cX11_madeOf 32 = .ok (.iload_n 2, 1) := by decide +kernel
theorem dX11_madeOf_33 : decode cX11_madeOf 33 = .ok (.ireturn, 1) := by decide +kernel
theorem dX11_skin_0 : decode cX11_skin 0 = .ok (.aload_n 0, 1) := by decide +kernel
theorem dX11_skin_1 : decode cX11_skin 1 = .ok (.iconst 0, 1) := by decide +kernel
theorem dX11_skin_2 : decode cX11_skin 2 = .ok (.putfield 144, 3) := by decide +kernel
theorem dX11_skin_5 : decode cX11_skin 5 = .ok (.aload_n 0, 1) := by decide +kernel
theorem dX11_skin_6 : decode cX11_skin 6 = .ok (.iload_n 1, 1) := by decide +kernel
theorem dX11_skin_7 : decode cX11_skin 7 = .ok (.invokevirtual 353, 3) := by decide +kernel
theorem dX11_skin_10 : decode cX11_skin 10 = .ok (.ifCond .eq 12, 3) := by decide +kernel
theorem dX11_skin_13 : decode cX11_skin 13 = .ok (.iload_n 2, 1) := by decide +kernel
theorem dX11_skin_14 : decode cX11_skin 14 = .ok (.iconst 0, 1) := by decide +kernel
theorem dX11_skin_15 : decode cX11_skin 15 = .ok (.iconst 4, 1) := by decide +kernel
theorem dX11_skin_16 : decode cX11_skin 16 = .ok (.invokestatic 265, 3) := by decide +kernel
theorem dX11_skin_19 : decode cX11_skin 19 = .ok (.ifCond .ne 5, 3) := by decide +kernel
theorem dX11_skin_22 : decode cX11_skin 22 = .ok (.iconst (-1), 1) := by decide +kernel
theorem dX11_skin_23 : decode cX11_skin 23 = .ok (.ireturn, 1) := by decide +kernel
theorem dX11_skin_24 : decode cX11_skin 24 = .ok (.iload_n 2, 1) := by decide +kernel
theorem dX11_skin_25 : decode cX11_skin 25 = .ok (.iconst 2, 1) := by decide +kernel
theorem dX11_skin_26 : decode cX11_skin 26 = .ok (.if_icmp .ge 25, 3) := by decide +kernel
theorem dX11_skin_29 : decode cX11_skin 29 = .ok (.iload_n 2, 1) := by decide +kernel
theorem dX11_skin_30 : decode cX11_skin 30 = .ok (.ifCond .ne 12, 3) := by decide +kernel
theorem dX11_skin_33 : decode cX11_skin 33 = .ok (.aload_n 0, 1) := by decide +kernel
theorem dX11_skin_34 : decode cX11_skin 34 = .ok (.getfield 23, 3) := by decide +kernel
theorem dX11_skin_37 : decode cX11_skin 37 = .ok (.iload_n 1, 1) := by decide +kernel
theorem dX11_skin_38 : decode cX11_skin 38 = .ok (.iaload, 1) := by decide +kernel
theorem dX11_skin_39 : decode cX11_skin 39 = .ok (.goto 11, 3) := by decide +kernel
theorem dX11_skin_42 : decode cX11_skin 42 = .ok (.aload_n 0, 1) := by decide +kernel
theorem dX11_skin_43 : decode cX11_skin 43 = .ok (.getfield 120, 3) := by decide +kernel
theorem dX11_skin_46 : decode cX11_skin 46 = .ok (.iconst 1, 1) := by decide +kernel
theorem dX11_skin_47 : decode cX11_skin 47 = .ok (.iload_n 1, 1) := by decide +kernel
theorem dX11_skin_48 : decode cX11_skin 48 = .ok (.iadd, 1) := by decide +kernel
theorem dX11_skin_49 : decode cX11_skin 49 = .ok (.iaload, 1) := by decide +kernel
theorem dX11_skin_50 : decode cX11_skin 50 = .ok (.ireturn, 1) := by decide +kernel
theorem dX11_skin_51 : decode cX11_skin 51 = .ok (.iload_n 2, 1) := by decide +kernel
theorem dX11_skin_52 : decode cX11_skin 52 = .ok (.iconst 2, 1) := by decide +kernel
theorem dX11_skin_53 : decode cX11_skin 53 = .ok (.if_icmp .ne 12, 3) := by decide +kernel
theorem dX11_skin_56 : decode cX11_skin 56 = .ok (.aload_n 0, 1) := by decide +kernel
theorem dX11_skin_57 : decode cX11_skin 57 = .ok (.getfield 29, 3) := by decide +kernel
theorem dX11_skin_60 : decode cX11_skin 60 = .ok (.iload_n 1, 1) := by decide +kernel
theorem dX11_skin_61 : decode cX11_skin 61 = .ok (.iaload, 1) := by decide +kernel
theorem dX11_skin_62 : decode cX11_skin 62 = .ok (.goto 25, 3) := by decide +kernel
theorem dX11_skin_65 : decode cX11_skin 65 = .ok (.iload_n 2, 1) := by decide +kernel
theorem dX11_skin_66 : decode cX11_skin 66 = .ok (.iconst 3, 1) := by decide +kernel
theorem dX11_skin_67 : decode cX11_skin 67 = .ok (.if_icmp .ne 14, 3) := by decide +kernel
theorem dX11_skin_70 : decode cX11_skin 70 = .ok (.aload_n 0, 1) := by decide +kernel
theorem dX11_skin_71 : decode cX11_skin 71 = .ok (.getfield 120, 3) := by decide +kernel
theorem dX11_skin_74 : decode cX11_skin 74 = .ok (.iconst 4, 1) := by decide +kernel
theorem dX11_skin_75 : decode cX11_skin 75 = .ok (.iload_n 1, 1) := by decide +kernel
theorem dX11_skin_76 : decode cX11_skin 76 = .ok (.iadd, 1) := by decide +kernel
theorem dX11_skin_77 : decode cX11_skin 77 = .ok (.iaload, 1) := by decide +kernel
theorem dX11_skin_78 : decode cX11_skin 78 = .ok (.goto 9, 3) := by decide +kernel
theorem dX11_skin_81 : decode cX11_skin 81 = .ok (.aload_n 0, 1) := by decide +kernel
theorem dX11_skin_82 : decode cX11_skin 82 = .ok (.iload_n 1, 1) := by decide +kernel
theorem dX11_skin_83 : decode cX11_skin 83 = .ok (.iconst (-1), 1) := by decide +kernel
theorem dX11_skin_84 : decode cX11_skin 84 = .ok (.invokevirtual 381, 3) := by decide +kernel
theorem dX11_skin_87 : decode cX11_skin 87 = .ok (.ireturn, 1) := by decide +kernel
theorem dX11_text_0 : decode cX11_text 0 = .ok (.aload_n 0, 1) := by decide +kernel
theorem dX11_text_1 : decode cX11_text 1 = .ok (.iconst 0, 1) := by decide +kernel
theorem dX11_text_2 : decode cX11_text 2 = .ok (.putfield 144, 3) := by decide +kernel
theorem dX11_text_5 : decode cX11_text 5 = .ok (.aload_n 0, 1) := by decide +kernel
theorem dX11_text_6 : decode cX11_text 6 = .ok (.iload_n 1, 1) := by decide +kernel
theorem dX11_text_7 : decode cX11_text 7 = .ok (.invokevirtual 387, 3) := by decide +kernel
theorem dX11_text_10 : decode cX11_text 10 = .ok (.ifCond .eq 12, 3) := by decide +kernel
theorem dX11_text_13 : decode cX11_text 13 = .ok (.iload_n 2, 1) := by decide +kernel
theorem dX11_text_14 : decode cX11_text 14 = .ok (.iconst 0, 1) := by decide +kernel
theorem dX11_text_15 : decode cX11_text 15 = .ok (.iconst 4, 1) := by decide +kernel
theorem dX11_text_16 : decode cX11_text 16 = .ok (.invokestatic 265, 3) := by decide +kernel
theorem dX11_text_19 : decode cX11_text 19 = .ok (.ifCond .ne 6, 3) := by decide +kernel
theorem dX11_text_22 : decode cX11_text 22 = .ok (.bipush (-2), 2) := by decide +kernel
theorem dX11_text_24 : decode cX11_text 24 = .ok (.ireturn, 1) := by decide +kernel
theorem dX11_text_25 : decode cX11_text 25 = .ok (.iload_n 2, 1) := by decide +kernel
theorem dX11_text_26 : decode cX11_text 26 = .ok (.iconst 3, 1) := by decide +kernel
theorem dX11_text_27 : decode cX11_text 27 = .ok (.if_icmp .ge 37, 3) := by decide +kernel
theorem dX11_text_30 : decode cX11_text 30 = .ok (.iload_n 2, 1) := by decide +kernel
theorem dX11_text_31 : decode cX11_text 31 = .ok (.ifCond .ne 12, 3) := by decide +kernel
theorem dX11_text_34 : decode cX11_text 34 = .ok (.aload_n 0, 1) := by decide +kernel
theorem dX11_text_35 : decode cX11_text 35 = .ok (.getfield 32, 3) := by decide +kernel
theorem dX11_text_38 : decode cX11_text 38 = .ok (.iload_n 1, 1) := by decide +kernel
theorem dX11_text_39 : decode cX11_text 39 = .ok (.iaload, 1) := by decide +kernel
theorem dX11_text_40 : decode cX11_text 40 = .ok (.goto 23, 3) := by decide +kernel
theorem dX11_text_43 : decode cX11_text 43 = .ok (.iload_n 2, 1) := by decide +kernel
theorem dX11_text_44 : decode cX11_text 44 = .ok (.iconst 1, 1) := by decide +kernel
theorem dX11_text_45 : decode cX11_text 45 = .ok (.if_icmp .ne 12, 3) := by decide +kernel
theorem dX11_text_48 : decode cX11_text 48 = .ok (.aload_n 0, 1) := by decide +kernel
theorem dX11_text_49 : decode cX11_text 49 = .ok (.getfield 35, 3) := by decide +kernel
theorem dX11_text_52 : decode cX11_text 52 = .ok (.iload_n 1, 1) := by decide +kernel
theorem dX11_text_53 : decode cX11_text 53 = .ok (.iaload, 1) := by decide +kernel
theorem dX11_text_54 : decode cX11_text 54 = .ok (.goto 9, 3) := by decide +kernel
theorem dX11_text_57 : decode cX11_text 57 = .ok (.aload_n 0, 1) := by decide +kernel
theorem dX11_text_58 : decode cX11_text 58 = .ok (.getfield 38, 3) := by decide +kernel
theorem dX11_text_61 : decode cX11_text 61 = .ok (.iload_n 1, 1) := by decide +kernel
theorem dX11_text_62 : decode cX11_text 62 = .ok (.iaload, 1) := by decide +kernel
theorem dX11_text_63 : decode cX11_text 63 = .ok (.ireturn, 1) := by decide +kernel
theorem dX11_text_64 : decode cX11_text 64 = .ok (.iload_n 2, 1) := by decide +kernel
theorem dX11_text_65 : decode cX11_text 65 = .ok (.iconst 3, 1) := by decide +kernel
theorem dX11_text_66 : decode cX11_text 66 = .ok (.if_icmp .ne 14, 3) := by decide +kernel
theorem dX11_text_69 : decode cX11_text 69 = .ok (.aload_n 0, 1) := by decide +kernel
theorem dX11_text_70 : decode cX11_text 70 = .ok (.invokevirtual 390, 3) := by decide +kernel
theorem dX11_text_73 : decode cX11_text 73 = .ok (.iload_n 1, 1) := by decide +kernel
theorem dX11_text_74 : decode cX11_text 74 = .ok (.ishr, 1) := by decide +kernel
theorem dX11_text_75 : decode cX11_text 75 = .ok (.iconst 1, 1) := by decide +kernel
theorem dX11_text_76 : decode cX11_text 76 = .ok (.iand, 1) := by decide +kernel
theorem dX11_text_77 : decode cX11_text 77 = .ok (.goto 8, 3) := by decide +kernel
theorem dX11_text_80 : decode cX11_text 80 = .ok (.aload_n 0, 1) := by decide +kernel
theorem dX11_text_81 : decode cX11_text 81 = .ok (.iload_n 1, 1) := by decide +kernel
theorem dX11_text_82 : decode cX11_text 82 = .ok (.invokevirtual 393, 3) := by decide +kernel
theorem dX11_text_85 : decode cX11_text 85 = .ok (.ireturn, 1) := by decide +kernel
theorem dX11_layers_0 : decode cX11_layers 0 = .ok (.aload_n 0, 1) := by decide +kernel
theorem dX11_layers_1 : decode cX11_layers 1 = .ok (.iconst 0, 1) := by decide +kernel
theorem dX11_layers_2 : decode cX11_layers 2 = .ok (.putfield 144, 3) := by decide +kernel
theorem dX11_layers_5 : decode cX11_layers 5 = .ok (.aload_n 0, 1) := by decide +kernel
theorem dX11_layers_6 : decode cX11_layers 6 = .ok (.iload_n 1, 1) := by decide +kernel
theorem dX11_layers_7 : decode cX11_layers 7 = .ok (.iload_n 2, 1) := by decide +kernel
theorem dX11_layers_8 : decode cX11_layers 8 = .ok (.invokevirtual 396, 3) := by decide +kernel
theorem dX11_layers_11 : decode cX11_layers 11 = .ok (.ifCond .eq 23, 3) := by decide +kernel
theorem dX11_layers_14 : decode cX11_layers 14 = .ok (.aload_n 0, 1) := by decide +kernel
theorem dX11_layers_15 : decode cX11_layers 15 = .ok (.getfield 120, 3) := by decide +kernel
theorem dX11_layers_18 : decode cX11_layers 18 = .ok (.bipush 7, 2) := by decide +kernel
theorem dX11_layers_20 : decode cX11_layers 20 = .ok (.bipush 6, 2) := by decide +kernel
theorem dX11_layers_22 : decode cX11_layers 22 = .ok (.iload_n 1, 1) := by decide +kernel
theorem dX11_layers_23 : decode cX11_layers 23 = .ok (.imul, 1) := by decide +kernel
theorem dX11_layers_24 : decode cX11_layers 24 = .ok (.iadd, 1) := by decide +kernel
theorem dX11_layers_25 : decode cX11_layers 25 = .ok (.iload_n 2, 1) := by decide +kernel
theorem dX11_layers_26 : decode cX11_layers 26 = .ok (.iadd, 1) := by decide +kernel
theorem dX11_layers_27 : decode cX11_layers 27 = .ok (.iaload, 1) := by decide +kernel
theorem dX11_layers_28 : decode cX11_layers 28 = .ok (.invokestatic 399, 3) := by decide +kernel
theorem dX11_layers_31 : decode cX11_layers 31 = .ok (.goto 4, 3) := by decide +kernel
theorem dX11_layers_34 : decode cX11_layers 34 = .ok (.iconst (-1), 1) := by decide +kernel
theorem dX11_layers_35 : decode cX11_layers 35 = .ok (.ireturn, 1) := by decide +kernel
theorem dX11_layerOf_0 : decode cX11_layerOf 0 = .ok (.iload_n 0, 1) := by decide +kernel
theorem dX11_layerOf_1 : decode cX11_layerOf 1 = .ok (.istore_n 2, 1) := by decide +kernel
theorem dX11_layerOf_2 : decode cX11_layerOf 2 = .ok (.iload_n 0, 1) := by decide +kernel
theorem dX11_layerOf_3 : decode cX11_layerOf 3 = .ok (.invokestatic 399, 3) := by decide +kernel
theorem dX11_layerOf_6 : decode cX11_layerOf 6 = .ok (.iconst 1, 1) := by decide +kernel
theorem dX11_layerOf_7 : decode cX11_layerOf 7 = .ok (.isub, 1) := by decide +kernel
theorem dX11_layerOf_8 : decode cX11_layerOf 8 = .ok (.istore_n 3, 1) := by decide +kernel
theorem dX11_layerOf_9 : decode cX11_layerOf 9 = .ok (.iload_n 3, 1) := by decide +kernel
theorem dX11_layerOf_10 : decode cX11_layerOf 10 = .ok (.iload_n 1, 1) := by decide +kernel
theorem dX11_layerOf_11 : decode cX11_layerOf 11 = .ok (.if_icmp .le 14, 3) := by decide +kernel
theorem dX11_layerOf_14 : decode cX11_layerOf 14 = .ok (.iload_n 2, 1) := by decide +kernel
theorem dX11_layerOf_15 : decode cX11_layerOf 15 = .ok (.bipush 7, 2) := by decide +kernel
theorem dX11_layerOf_17 : decode cX11_layerOf 17 = .ok (.idiv, 1) := by decide +kernel
theorem dX11_layerOf_18 : decode cX11_layerOf 18 = .ok (.istore_n 2, 1) := by decide +kernel
theorem dX11_layerOf_19 : decode cX11_layerOf 19 = .ok (.iinc 3 (-1), 3) := by decide +kernel
theorem dX11_layerOf_22 : decode cX11_layerOf 22 = .ok (.goto (-13), 3) := by decide +kernel
theorem dX11_layerOf_25 : decode cX11_layerOf 25 = .ok (.iload_n 2, 1) := by decide +kernel
theorem dX11_layerOf_26 : decode cX11_layerOf 26 = .ok (.bipush 7, 2) := by decide +kernel
theorem dX11_layerOf_28 : decode cX11_layerOf 28 = .ok (.irem, 1) := by decide +kernel
theorem dX11_layerOf_29 : decode cX11_layerOf 29 = .ok (.iconst 1, 1) := by decide +kernel
theorem dX11_layerOf_30 : decode cX11_layerOf 30 = .ok (.isub, 1) := by decide +kernel
theorem dX11_layerOf_31 : decode cX11_layerOf 31 = .ok (.ireturn, 1) := by decide +kernel
theorem dX11_layer_0 : decode cX11_layer 0 = .ok (.aload_n 0, 1) := by decide +kernel
theorem dX11_layer_1 : decode cX11_layer 1 = .ok (.iconst 0, 1) := by decide +kernel
theorem dX11_layer_2 : decode cX11_layer 2 = .ok (.putfield 144, 3) := by decide +kernel
theorem dX11_layer_5 : decode cX11_layer 5 = .ok (.aload_n 0, 1) := by decide +kernel
theorem dX11_layer_6 : decode cX11_layer 6 = .ok (.iload_n 1, 1) := by decide +kernel
theorem dX11_layer_7 : decode cX11_layer 7 = .ok (.iload_n 2, 1) := by decide +kernel
theorem dX11_layer_8 : decode cX11_layer 8 = .ok (.invokevirtual 396, 3) := by decide +kernel
theorem dX11_layer_11 : decode cX11_layer 11 = .ok (.ifCond .eq 28, 3) := by decide +kernel
theorem dX11_layer_14 : decode cX11_layer 14 = .ok (.iload_n 3, 1) := by decide +kernel
theorem dX11_layer_15 : decode cX11_layer 15 = .ok (.ifCond .lt 24, 3) := by decide +kernel
theorem dX11_layer_18 : decode cX11_layer 18 = .ok (.iload_n 3, 1) := by decide +kernel
theorem dX11_layer_19 : decode cX11_layer 19 = .ok (.aload_n 0, 1) := by decide +kernel
theorem dX11_layer_20 : decode cX11_layer 20 = .ok (.getfield 120, 3) := by decide +kernel
theorem dX11_layer_23 : decode cX11_layer 23 = .ok (.bipush 7, 2) := by decide +kernel
theorem dX11_layer_25 : decode cX11_layer 25 = .ok (.bipush 6, 2) := by decide +kernel
theorem dX11_layer_27 : decode cX11_layer 27 = .ok (.iload_n 1, 1) := by decide +kernel
theorem dX11_layer_28 : decode cX11_layer 28 = .ok (.imul, 1) := by decide +kernel
theorem dX11_layer_29 : decode cX11_layer 29 = .ok (.iadd, 1) := by decide +kernel
theorem dX11_layer_30 : decode cX11_layer 30 = .ok (.iload_n 2, 1) := by decide +kernel
theorem dX11_layer_31 : decode cX11_layer 31 = .ok (.iadd, 1) := by decide +kernel
theorem dX11_layer_32 : decode cX11_layer 32 = .ok (.iaload, 1) := by decide +kernel
theorem dX11_layer_33 : decode cX11_layer 33 = .ok (.invokestatic 399, 3) := by decide +kernel
theorem dX11_layer_36 : decode cX11_layer 36 = .ok (.if_icmp .lt 5, 3) := by decide +kernel
theorem dX11_layer_39 : decode cX11_layer 39 = .ok (.iconst (-1), 1) := by decide +kernel
theorem dX11_layer_40 : decode cX11_layer 40 = .ok (.ireturn, 1) := by decide +kernel
theorem dX11_layer_41 : decode cX11_layer 41 = .ok (.aload_n 0, 1) := by decide +kernel
theorem dX11_layer_42 : decode cX11_layer 42 = .ok (.getfield 120, 3) := by decide +kernel
theorem dX11_layer_45 : decode cX11_layer 45 = .ok (.bipush 7, 2) := by decide +kernel
theorem dX11_layer_47 : decode cX11_layer 47 = .ok (.bipush 6, 2) := by decide +kernel
theorem dX11_layer_49 : decode cX11_layer 49 = .ok (.iload_n 1, 1) := by decide +kernel
theorem dX11_layer_50 : decode cX11_layer 50 = .ok (.imul, 1) := by decide +kernel
theorem dX11_layer_51 : decode cX11_layer 51 = .ok (.iadd, 1) := by decide +kernel
theorem dX11_layer_52 : decode cX11_layer 52 = .ok (.iload_n 2, 1) := by decide +kernel
theorem dX11_layer_53 : decode cX11_layer 53 = .ok (.iadd, 1) := by decide +kernel
theorem dX11_layer_54 : decode cX11_layer 54 = .ok (.iaload, 1) := by decide +kernel
theorem dX11_layer_55 : decode cX11_layer 55 = .ok (.iload_n 3, 1) := by decide +kernel
theorem dX11_layer_56 : decode cX11_layer 56 = .ok (.invokestatic 402, 3) := by decide +kernel
theorem dX11_layer_59 : decode cX11_layer 59 = .ok (.ireturn, 1) := by decide +kernel
theorem dX11_read_0 : decode cX11_read 0 = .ok (.aload_n 0, 1) := by decide +kernel
theorem dX11_read_1 : decode cX11_read 1 = .ok (.iconst 0, 1) := by decide +kernel
theorem dX11_read_2 : decode cX11_read 2 = .ok (.putfield 144, 3) := by decide +kernel
theorem dX11_read_5 : decode cX11_read 5 = .ok (.aload_n 0, 1) := by decide +kernel
theorem dX11_read_6 : decode cX11_read 6 = .ok (.iload_n 1, 1) := by decide +kernel
theorem dX11_read_7 : decode cX11_read 7 = .ok (.iload_n 2, 1) := by decide +kernel
theorem dX11_read_8 : decode cX11_read 8 = .ok (.invokevirtual 396, 3) := by decide +kernel
theorem dX11_read_11 : decode cX11_read 11 = .ok (.ifCond .eq 22, 3) := by decide +kernel
theorem dX11_read_14 : decode cX11_read 14 = .ok (.aload_n 0, 1) := by decide +kernel
theorem dX11_read_15 : decode cX11_read 15 = .ok (.iload_n 1, 1) := by decide +kernel
theorem dX11_read_16 : decode cX11_read 16 = .ok (.iload_n 2, 1) := by decide +kernel
theorem dX11_read_17 : decode cX11_read 17 = .ok (.aload_n 0, 1) := by decide +kernel
theorem dX11_read_18 : decode cX11_read 18 = .ok (.aload_n 0, 1) := by decide +kernel
theorem dX11_read_19 : decode cX11_read 19 = .ok (.getfield 120, 3) := by decide +kernel
theorem dX11_read_22 : decode cX11_read 22 = .ok (.iconst 0, 1) := by decide +kernel
theorem dX11_read_23 : decode cX11_read 23 = .ok (.iaload, 1) := by decide +kernel
theorem dX11_read_24 : decode cX11_read 24 = .ok (.invokevirtual 367, 3) := by decide +kernel
theorem dX11_read_27 : decode cX11_read 27 = .ok (.invokevirtual 363, 3) := by decide +kernel
theorem dX11_read_30 : decode cX11_read 30 = .ok (.goto 4, 3) := by decide +kernel
theorem dX11_read_33 : decode cX11_read 33 = .ok (.iconst (-1), 1) := by decide +kernel
theorem dX11_read_34 : decode cX11_read 34 = .ok (.ireturn, 1) := by decide +kernel
theorem dX11_keeps_0 : decode cX11_keeps 0 = .ok (.aload_n 0, 1) := by decide +kernel
theorem dX11_keeps_1 : decode cX11_keeps 1 = .ok (.getfield 343, 3) := by decide +kernel
theorem dX11_keeps_4 : decode cX11_keeps 4 = .ok (.bipush 16, 2) := by decide +kernel
theorem dX11_keeps_6 : decode cX11_keeps 6 = .ok (.if_icmp .ne 43, 3) := by decide +kernel
theorem dX11_keeps_9 : decode cX11_keeps 9 = .ok (.iconst 0, 1) := by decide +kernel
theorem dX11_keeps_10 : decode cX11_keeps 10 = .ok (.istore_n 1, 1) := by decide +kernel
theorem dX11_keeps_11 : decode cX11_keeps 11 = .ok (.iload_n 1, 1) := by decide +kernel
theorem dX11_keeps_12 : decode cX11_keeps 12 = .ok (.sipush 375, 3) := by decide +kernel
theorem dX11_keeps_15 : decode cX11_keeps 15 = .ok (.if_icmp .ge 24, 3) := by decide +kernel
theorem dX11_keeps_18 : decode cX11_keeps 18 = .ok (.aload_n 0, 1) := by decide +kernel
theorem dX11_keeps_19 : decode cX11_keeps 19 = .ok (.getfield 132, 3) := by decide +kernel
theorem dX11_keeps_22 : decode cX11_keeps 22 = .ok (.iload_n 1, 1) := by decide +kernel
theorem dX11_keeps_23 : decode cX11_keeps 23 = .ok (.aload_n 0, 1) := by decide +kernel
theorem dX11_keeps_24 : decode cX11_keeps 24 = .ok (.getfield 132, 3) := by decide +kernel
theorem dX11_keeps_27 : decode cX11_keeps 27 = .ok (.iload_n 1, 1) := by decide +kernel
theorem dX11_keeps_28 : decode cX11_keeps 28 = .ok (.bipush 25, 2) := by decide +kernel
theorem dX11_keeps_30 : decode cX11_keeps 30 = .ok (.iadd, 1) := by decide +kernel
theorem dX11_keeps_31 : decode cX11_keeps 31 = .ok (.iaload, 1) := by decide +kernel
theorem dX11_keeps_32 : decode cX11_keeps 32 = .ok (.iastore, 1) := by decide +kernel
theorem dX11_keeps_33 : decode cX11_keeps 33 = .ok (.iinc 1 1, 3) := by decide +kernel
theorem dX11_keeps_36 : decode cX11_keeps 36 = .ok (.goto (-25), 3) := by decide +kernel
theorem dX11_keeps_39 : decode cX11_keeps 39 = .ok (.aload_n 0, 1) := by decide +kernel
theorem dX11_keeps_40 : decode cX11_keeps 40 = .ok (.dup, 1) := by decide +kernel
theorem dX11_keeps_41 : decode cX11_keeps 41 = .ok (.getfield 343, 3) := by decide +kernel
theorem dX11_keeps_44 : decode cX11_keeps 44 = .ok (.iconst 1, 1) := by decide +kernel
theorem dX11_keeps_45 : decode cX11_keeps 45 = .ok (.isub, 1) := by decide +kernel
theorem dX11_keeps_46 : decode cX11_keeps 46 = .ok (.putfield 343, 3) := by decide +kernel
theorem dX11_keeps_49 : decode cX11_keeps 49 = .ok (.aload_n 0, 1) := by decide +kernel
theorem dX11_keeps_50 : decode cX11_keeps 50 = .ok (.getfield 120, 3) := by decide +kernel
theorem dX11_keeps_53 : decode cX11_keeps 53 = .ok (.iconst 0, 1) := by decide +kernel
theorem dX11_keeps_54 : decode cX11_keeps 54 = .ok (.aload_n 0, 1) := by decide +kernel
theorem dX11_keeps_55 : decode cX11_keeps 55 = .ok (.getfield 132, 3) := by decide +kernel
theorem dX11_keeps_58 : decode cX11_keeps 58 = .ok (.bipush 25, 2) := by decide +kernel
theorem dX11_keeps_60 : decode cX11_keeps 60 = .ok (.aload_n 0, 1) := by decide +kernel
theorem dX11_keeps_61 : decode cX11_keeps 61 = .ok (.getfield 343, 3) := by decide +kernel
theorem dX11_keeps_64 : decode cX11_keeps 64 = .ok (.imul, 1) := by decide +kernel
theorem dX11_keeps_65 : decode cX11_keeps 65 = .ok (.invokestatic 405, 3) := by decide +kernel
theorem dX11_keeps_68 : decode cX11_keeps 68 = .ok (.aload_n 0, 1) := by decide +kernel
theorem dX11_keeps_69 : decode cX11_keeps 69 = .ok (.dup, 1) := by decide +kernel
theorem dX11_keeps_70 : decode cX11_keeps 70 = .ok (.getfield 343, 3) := by decide +kernel
theorem dX11_keeps_73 : decode cX11_keeps 73 = .ok (.iconst 1, 1) := by decide +kernel
theorem dX11_keeps_74 : decode cX11_keeps 74 = .ok (.iadd, 1) := by decide +kernel
theorem dX11_keeps_75 : decode cX11_keeps 75 = .ok (.putfield 343, 3) := by decide +kernel
theorem dX11_keeps_78 : decode cX11_keeps 78 = .ok (.return_, 1) := by decide +kernel
theorem dX11_write_0 : decode cX11_write 0 = .ok (.aload_n 0, 1) := by decide +kernel
theorem dX11_write_1 : decode cX11_write 1 = .ok (.iconst 0, 1) := by decide +kernel
theorem dX11_write_2 : decode cX11_write 2 = .ok (.putfield 144, 3) := by decide +kernel
theorem dX11_write_5 : decode cX11_write 5 = .ok (.aload_n 0, 1) := by decide +kernel
theorem dX11_write_6 : decode cX11_write 6 = .ok (.iload_n 1, 1) := by decide +kernel
theorem dX11_write_7 : decode cX11_write 7 = .ok (.invokevirtual 387, 3) := by decide +kernel
theorem dX11_write_10 : decode cX11_write 10 = .ok (.ifCond .eq 22, 3) := by decide +kernel
theorem dX11_write_13 : decode cX11_write 13 = .ok (.aload_n 0, 1) := by decide +kernel
theorem dX11_write_14 : decode cX11_write 14 = .ok (.iload_n 2, 1) := by decide +kernel
theorem dX11_write_15 : decode cX11_write 15 = .ok (.iload_n 3, 1) := by decide +kernel
theorem dX11_write_16 : decode cX11_write 16 = .ok (.invokevirtual 396, 3) := by decide +kernel
theorem dX11_write_19 : decode cX11_write 19 = .ok (.ifCond .eq 13, 3) := by decide +kernel
theorem dX11_write_22 : decode cX11_write 22 = .ok (.aload_n 0, 1) := by decide +kernel
theorem dX11_write_23 : decode cX11_write 23 = .ok (.iload_n 1, 1) := by decide +kernel
theorem dX11_write_24 : decode cX11_write 24 = .ok (.iload_n 2, 1) := by decide +kernel
theorem dX11_write_25 : decode cX11_write 25 = .ok (.iload_n 3, 1) := by decide +kernel
theorem dX11_write_26 : decode cX11_write 26 = .ok (.invokevirtual 378, 3) := by decide +kernel
theorem dX11_write_29 : decode cX11_write 29 = .ok (.ifCond .ne 5, 3) := by decide +kernel
theorem dX11_write_32 : decode cX11_write 32 = .ok (.iconst 0, 1) := by decide +kernel
theorem dX11_write_33 : decode cX11_write 33 = .ok (.ireturn, 1) := by decide +kernel
theorem dX11_write_34 : decode cX11_write 34 = .ok (.aload_n 0, 1) := by decide +kernel
theorem dX11_write_35 : decode cX11_write 35 = .ok (.invokevirtual 409, 3) := by decide +kernel
theorem dX11_write_38 : decode cX11_write 38 = .ok (.aload_n 0, 1) := by decide +kernel
theorem dX11_write_39 : decode cX11_write 39 = .ok (.iload_n 1, 1) := by decide +kernel
theorem dX11_write_40 : decode cX11_write 40 = .ok (.iload_n 2, 1) := by decide +kernel
theorem dX11_write_41 : decode cX11_write 41 = .ok (.iload_n 3, 1) := by decide +kernel
theorem dX11_write_42 : decode cX11_write 42 = .ok (.invokevirtual 412, 3) := by decide +kernel
theorem dX11_write_45 : decode cX11_write 45 = .ok (.iconst 1, 1) := by decide +kernel
theorem dX11_write_46 : decode cX11_write 46 = .ok (.ireturn, 1) := by decide +kernel
theorem dX11_scrapesNow_0 : decode cX11_scrapesNow 0 = .ok (.aload_n 0, 1) := by decide +kernel
theorem dX11_scrapesNow_1 : decode cX11_scrapesNow 1 = .ok (.iload_n 1, 1) := by decide +kernel
theorem dX11_scrapesNow_2 : decode cX11_scrapesNow 2 = .ok (.invokevirtual 353, 3) := by decide +kernel
theorem dX11_scrapesNow_5 : decode cX11_scrapesNow 5 = .ok (.ifCond .eq 12, 3) := by decide +kernel
theorem dX11_scrapesNow_8 : decode cX11_scrapesNow 8 = .ok (.aload_n 0, 1) := by decide +kernel
theorem dX11_scrapesNow_9 : decode cX11_scrapesNow 9 = .ok (.iload_n 1, 1) := by decide +kernel
theorem dX11_scrapesNow_10 : decode cX11_scrapesNow 10 = .ok (.iload_n 2, 1) := by decide +kernel
theorem dX11_scrapesNow_11 : decode cX11_scrapesNow 11 = .ok (.invokevirtual 374, 3) := by decide +kernel
theorem dX11_scrapesNow_14 : decode cX11_scrapesNow 14 = .ok (.ifCond .ne 5, 3) := by decide +kernel
theorem dX11_scrapesNow_17 : decode cX11_scrapesNow 17 = .ok (.iconst (-1), 1) := by decide +kernel
theorem dX11_scrapesNow_18 : decode cX11_scrapesNow 18 = .ok (.ireturn, 1) := by decide +kernel
theorem dX11_scrapesNow_19 : decode cX11_scrapesNow 19 = .ok (.aload_n 0, 1) := by decide +kernel
theorem dX11_scrapesNow_20 : decode cX11_scrapesNow 20 = .ok (.invokevirtual 409, 3) := by decide +kernel
theorem dX11_scrapesNow_23 : decode cX11_scrapesNow 23 = .ok (.aload_n 0, 1) := by decide +kernel
theorem dX11_scrapesNow_24 : decode cX11_scrapesNow 24 = .ok (.iload_n 1, 1) := by decide +kernel
theorem dX11_scrapesNow_25 : decode cX11_scrapesNow 25 = .ok (.iload_n 2, 1) := by decide +kernel
theorem dX11_scrapesNow_26 : decode cX11_scrapesNow 26 = .ok (.invokevirtual 416, 3) := by decide +kernel
theorem dX11_scrapesNow_29 : decode cX11_scrapesNow 29 = .ok (.aload_n 0, 1) := by decide +kernel
theorem dX11_scrapesNow_30 : decode cX11_scrapesNow 30 = .ok (.getfield 120, 3) := by decide +kernel
theorem dX11_scrapesNow_33 : decode cX11_scrapesNow 33 = .ok (.iconst 1, 1) := by decide +kernel
theorem dX11_scrapesNow_34 : decode cX11_scrapesNow 34 = .ok (.iload_n 1, 1) := by decide +kernel
theorem dX11_scrapesNow_35 : decode cX11_scrapesNow 35 = .ok (.iadd, 1) := by decide +kernel
theorem dX11_scrapesNow_36 : decode cX11_scrapesNow 36 = .ok (.iaload, 1) := by decide +kernel
theorem dX11_scrapesNow_37 : decode cX11_scrapesNow 37 = .ok (.ireturn, 1) := by decide +kernel
theorem dX11_scrape_0 : decode cX11_scrape 0 = .ok (.aload_n 0, 1) := by decide +kernel
theorem dX11_scrape_1 : decode cX11_scrape 1 = .ok (.iconst 0, 1) := by decide +kernel
theorem dX11_scrape_2 : decode cX11_scrape 2 = .ok (.putfield 144, 3) := by decide +kernel
theorem dX11_scrape_5 : decode cX11_scrape 5 = .ok (.aload_n 0, 1) := by decide +kernel
theorem dX11_scrape_6 : decode cX11_scrape 6 = .ok (.iload_n 1, 1) := by decide +kernel
theorem dX11_scrape_7 : decode cX11_scrape 7 = .ok (.bipush 63, 2) := by decide +kernel
theorem dX11_scrape_9 : decode cX11_scrape 9 = .ok (.invokevirtual 419, 3) := by decide +kernel
theorem dX11_scrape_12 : decode cX11_scrape 12 = .ok (.ireturn, 1) := by decide +kernel
theorem dX11_third_0 : decode cX11_third 0 = .ok (.aload_n 0, 1) := by decide +kernel
theorem dX11_third_1 : decode cX11_third 1 = .ok (.iconst 0, 1) := by decide +kernel
theorem dX11_third_2 : decode cX11_third 2 = .ok (.putfield 144, 3) := by decide +kernel
theorem dX11_third_5 : decode cX11_third 5 = .ok (.aload_n 0, 1) := by decide +kernel
theorem dX11_third_6 : decode cX11_third 6 = .ok (.iload_n 1, 1) := by decide +kernel
theorem dX11_third_7 : decode cX11_third 7 = .ok (.bipush 9, 2) := by decide +kernel
theorem dX11_third_9 : decode cX11_third 9 = .ok (.invokevirtual 419, 3) := by decide +kernel
theorem dX11_third_12 : decode cX11_third 12 = .ok (.ireturn, 1) := by decide +kernel
theorem dX11_week_0 : decode cX11_week 0 = .ok (.aload_n 0, 1) := by decide +kernel
theorem dX11_week_1 : decode cX11_week 1 = .ok (.iconst 0, 1) := by decide +kernel
theorem dX11_week_2 : decode cX11_week 2 = .ok (.putfield 144, 3) := by decide +kernel
theorem dX11_week_5 : decode cX11_week 5 = .ok (.aload_n 0, 1) := by decide +kernel
theorem dX11_week_6 : decode cX11_week 6 = .ok (.invokevirtual 409, 3) := by decide +kernel
theorem dX11_week_9 : decode cX11_week 9 = .ok (.aload_n 0, 1) := by decide +kernel
theorem dX11_week_10 : decode cX11_week 10 = .ok (.getfield 120, 3) := by decide +kernel
theorem dX11_week_13 : decode cX11_week 13 = .ok (.iconst 0, 1) := by decide +kernel
theorem dX11_week_14 : decode cX11_week 14 = .ok (.dup2, 1) := by decide +kernel
theorem dX11_week_15 : decode cX11_week 15 = .ok (.iaload, 1) := by decide +kernel
theorem dX11_week_16 : decode cX11_week 16 = .ok (.iconst 1, 1) := by decide +kernel
theorem dX11_week_17 : decode cX11_week 17 = .ok (.iadd, 1) := by decide +kernel
theorem dX11_week_18 : decode cX11_week 18 = .ok (.iastore, 1) := by decide +kernel
theorem dX11_week_19 : decode cX11_week 19 = .ok (.aload_n 0, 1) := by decide +kernel
theorem dX11_week_20 : decode cX11_week 20 = .ok (.getfield 120, 3) := by decide +kernel
theorem dX11_week_23 : decode cX11_week 23 = .ok (.iconst 0, 1) := by decide +kernel
theorem dX11_week_24 : decode cX11_week 24 = .ok (.iaload, 1) := by decide +kernel
theorem dX11_week_25 : decode cX11_week 25 = .ok (.ireturn, 1) := by decide +kernel
theorem dX11_undo_0 : decode cX11_undo 0 = .ok (.aload_n 0, 1) := by decide +kernel
theorem dX11_undo_1 : decode cX11_undo 1 = .ok (.iconst 0, 1) := by decide +kernel
theorem dX11_undo_2 : decode cX11_undo 2 = .ok (.putfield 144, 3) := by decide +kernel
theorem dX11_undo_5 : decode cX11_undo 5 = .ok (.aload_n 0, 1) := by decide +kernel
theorem dX11_undo_6 : decode cX11_undo 6 = .ok (.getfield 343, 3) := by decide +kernel
theorem dX11_undo_9 : decode cX11_undo 9 = .ok (.ifCond .ne 5, 3) := by decide +kernel
theorem dX11_undo_12 : decode cX11_undo 12 = .ok (.iconst 0, 1) := by decide +kernel
theorem dX11_undo_13 : decode cX11_undo 13 = .ok (.ireturn, 1) := by decide +kernel
theorem dX11_undo_14 : decode cX11_undo 14 = .ok (.aload_n 0, 1) := by decide +kernel
theorem dX11_undo_15 : decode cX11_undo 15 = .ok (.dup, 1) := by decide +kernel
theorem dX11_undo_16 : decode cX11_undo 16 = .ok (.getfield 343, 3) := by decide +kernel
theorem dX11_undo_19 : decode cX11_undo 19 = .ok (.iconst 1, 1) := by decide +kernel
theorem dX11_undo_20 : decode cX11_undo 20 = .ok (.isub, 1) := by decide +kernel
theorem dX11_undo_21 : decode cX11_undo 21 = .ok (.putfield 343, 3) := by decide +kernel
theorem dX11_undo_24 : decode cX11_undo 24 = .ok (.aload_n 0, 1) := by decide +kernel
theorem dX11_undo_25 : decode cX11_undo 25 = .ok (.getfield 132, 3) := by decide +kernel
theorem dX11_undo_28 : decode cX11_undo 28 = .ok (.bipush 25, 2) := by decide +kernel
theorem dX11_undo_30 : decode cX11_undo 30 = .ok (.aload_n 0, 1) := by decide +kernel
theorem dX11_undo_31 : decode cX11_undo 31 = .ok (.getfield 343, 3) := by decide +kernel
theorem dX11_undo_34 : decode cX11_undo 34 = .ok (.imul, 1) := by decide +kernel
theorem dX11_undo_35 : decode cX11_undo 35 = .ok (.aload_n 0, 1) := by decide +kernel
theorem dX11_undo_36 : decode cX11_undo 36 = .ok (.getfield 120, 3) := by decide +kernel
theorem dX11_undo_39 : decode cX11_undo 39 = .ok (.iconst 0, 1) := by decide +kernel
theorem dX11_undo_40 : decode cX11_undo 40 = .ok (.invokestatic 405, 3) := by decide +kernel
theorem dX11_undo_43 : decode cX11_undo 43 = .ok (.iconst 1, 1) := by decide +kernel
theorem dX11_undo_44 : decode cX11_undo 44 = .ok (.ireturn, 1) := by decide +kernel
theorem dX11_goes_0 : decode cX11_goes 0 = .ok (.aload_n 0, 1) := by decide +kernel
theorem dX11_goes_1 : decode cX11_goes 1 = .ok (.getfield 99, 3) := by decide +kernel
theorem dX11_goes_4 : decode cX11_goes 4 = .ok (.iload_n 1, 1) := by decide +kernel
theorem dX11_goes_5 : decode cX11_goes 5 = .ok (.iaload, 1) := by decide +kernel
theorem dX11_goes_6 : decode cX11_goes 6 = .ok (.istore_n 2, 1) := by decide +kernel
theorem dX11_goes_7 : decode cX11_goes 7 = .ok (.aload_n 0, 1) := by decide +kernel
theorem dX11_goes_8 : decode cX11_goes 8 = .ok (.getfield 93, 3) := by decide +kernel
theorem dX11_goes_11 : decode cX11_goes 11 = .ok (.iload_n 1, 1) := by decide +kernel
theorem dX11_goes_12 : decode cX11_goes 12 = .ok (.iaload, 1) := by decide +kernel
theorem dX11_goes_13 : decode cX11_goes 13 = .ok (.iconst 3, 1) := by decide +kernel
theorem dX11_goes_14 : decode cX11_goes 14 = .ok (.if_icmp .ne 16, 3) := by decide +kernel
theorem dX11_goes_17 : decode cX11_goes 17 = .ok (.aload_n 0, 1) := by decide +kernel
theorem dX11_goes_18 : decode cX11_goes 18 = .ok (.getfield 120, 3) := by decide +kernel
theorem dX11_goes_21 : decode cX11_goes 21 = .ok (.iconst 0, 1) := by decide +kernel
theorem dX11_goes_22 : decode cX11_goes 22 = .ok (.dup2, 1) := by decide +kernel
theorem dX11_goes_23 : decode cX11_goes 23 = .ok (.iaload, 1) := by decide +kernel
theorem dX11_goes_24 : decode cX11_goes 24 = .ok (.iconst 1, 1) := by decide +kernel
theorem dX11_goes_25 : decode cX11_goes 25 = .ok (.iadd, 1) := by decide +kernel
theorem dX11_goes_26 : decode cX11_goes 26 = .ok (.iastore, 1) := by decide +kernel
theorem dX11_goes_27 : decode cX11_goes 27 = .ok (.goto 89, 3) := by decide +kernel
theorem dX11_goes_30 : decode cX11_goes 30 = .ok (.aload_n 0, 1) := by decide +kernel
theorem dX11_goes_31 : decode cX11_goes 31 = .ok (.getfield 93, 3) := by decide +kernel
theorem dX11_goes_34 : decode cX11_goes 34 = .ok (.iload_n 1, 1) := by decide +kernel
theorem dX11_goes_35 : decode cX11_goes 35 = .ok (.iaload, 1) := by decide +kernel
theorem dX11_goes_36 : decode cX11_goes 36 = .ok (.ifCond .ne 45, 3) := by decide +kernel
theorem dX11_goes_39 : decode cX11_goes 39 = .ok (.aload_n 0, 1) := by decide +kernel
theorem dX11_goes_40 : decode cX11_goes 40 = .ok (.aload_n 0, 1) := by decide +kernel
theorem dX11_goes_41 : decode cX11_goes 41 = .ok (.getfield 96, 3) := by decide +kernel
theorem dX11_goes_44 : decode cX11_goes 44 = .ok (.iload_n 1, 1) := by decide +kernel
theorem dX11_goes_45 : decode cX11_goes 45 = .ok (.iaload, 1) := by decide +kernel
theorem dX11_goes_46 : decode cX11_goes 46 = .ok (.iload_n 2, 1) := by decide +kernel
theorem dX11_goes_47 : decode cX11_goes 47 = .ok (.aload_n 0, 1) := by decide +kernel
theorem dX11_goes_48 : decode cX11_goes 48 = .ok (.getfield 102, 3) := by decide +kernel
theorem dX11_goes_51 : decode cX11_goes 51 = .ok (.iload_n 1, 1) := by decide +kernel
theorem dX11_goes_52 : decode cX11_goes 52 = .ok (.iaload, 1) := by decide +kernel
theorem dX11_goes_53 : decode cX11_goes 53 = .ok (.invokevirtual 378, 3) := by decide +kernel
theorem dX11_goes_56 : decode cX11_goes 56 = .ok (.ifCond .ne 5, 3) := by decide +kernel
theorem dX11_goes_59 : decode cX11_goes 59 = .ok (.iconst 0, 1) := by decide +kernel
theorem dX11_goes_60 : decode cX11_goes 60 = .ok (.ireturn, 1) := by decide +kernel
theorem dX11_goes_61 : decode cX11_goes 61 = .ok (.aload_n 0, 1) := by decide +kernel
theorem dX11_goes_62 : decode cX11_goes 62 = .ok (.aload_n 0, 1) := by decide +kernel
theorem dX11_goes_63 : decode cX11_goes 63 = .ok (.getfield 96, 3) := by decide +kernel
theorem dX11_goes_66 : decode cX11_goes 66 = .ok (.iload_n 1, 1) := by decide +kernel
theorem dX11_goes_67 : decode cX11_goes 67 = .ok (.iaload, 1) := by decide +kernel
theorem dX11_goes_68 : decode cX11_goes 68 = .ok (.iload_n 2, 1) := by decide +kernel
theorem dX11_goes_69 : decode cX11_goes 69 = .ok (.aload_n 0, 1) := by decide +kernel
theorem dX11_goes_70 : decode cX11_goes 70 = .ok (.getfield 102, 3) := by decide +kernel
theorem dX11_goes_73 : decode cX11_goes 73 = .ok (.iload_n 1, 1) := by decide +kernel
theorem dX11_goes_74 : decode cX11_goes 74 = .ok (.iaload, 1) := by decide +kernel
theorem dX11_goes_75 : decode cX11_goes 75 = .ok (.invokevirtual 412, 3) := by decide +kernel
theorem dX11_goes_78 : decode cX11_goes 78 = .ok (.goto 38, 3) := by decide +kernel
theorem dX11_goes_81 : decode cX11_goes 81 = .ok (.aload_n 0, 1) := by decide +kernel
theorem dX11_goes_82 : decode cX11_goes 82 = .ok (.getfield 93, 3) := by decide +kernel
theorem dX11_goes_85 : decode cX11_goes 85 = .ok (.iload_n 1, 1) := by decide +kernel
theorem dX11_goes_86 : decode cX11_goes 86 = .ok (.iaload, 1) := by decide +kernel
theorem dX11_goes_87 : decode cX11_goes 87 = .ok (.iconst 1, 1) := by decide +kernel
theorem dX11_goes_88 : decode cX11_goes 88 = .ok (.if_icmp .ne 8, 3) := by decide +kernel
theorem dX11_goes_91 : decode cX11_goes 91 = .ok (.bipush 63, 2) := by decide +kernel
theorem dX11_goes_93 : decode cX11_goes 93 = .ok (.goto 5, 3) := by decide +kernel
theorem dX11_goes_96 : decode cX11_goes 96 = .ok (.bipush 9, 2) := by decide +kernel
theorem dX11_goes_98 : decode cX11_goes 98 = .ok (.istore_n 3, 1) := by decide +kernel
theorem dX11_goes_99 : decode cX11_goes 99 = .ok (.aload_n 0, 1) := by decide +kernel
theorem dX11_goes_100 : decode cX11_goes 100 = .ok (.iload_n 2, 1) := by decide +kernel
theorem dX11_goes_101 : decode cX11_goes 101 = .ok (.iload_n 3, 1) := by decide +kernel
theorem dX11_goes_102 : decode cX11_goes 102 = .ok (.invokevirtual 374, 3) := by decide +kernel
theorem dX11_goes_105 : decode cX11_goes 105 = .ok (.ifCond .ne 5, 3) := by decide +kernel
theorem dX11_goes_108 : decode cX11_goes 108 = .ok (.iconst 0, 1) := by decide +kernel
theorem dX11_goes_109 : decode cX11_goes 109 = .ok (.ireturn, 1) := by decide +kernel
theorem dX11_goes_110 : decode cX11_goes 110 = .ok (.aload_n 0, 1) := by decide +kernel
theorem dX11_goes_111 : decode cX11_goes 111 = .ok (.iload_n 2, 1) := by decide +kernel
theorem dX11_goes_112 : decode cX11_goes 112 = .ok (.iload_n 3, 1) := by decide +kernel
theorem dX11_goes_113 : decode cX11_goes 113 = .ok (.invokevirtual 416, 3) := by decide +kernel
theorem dX11_goes_116 : decode cX11_goes 116 = .ok (.iconst 1, 1) := by decide +kernel
theorem dX11_goes_117 : decode cX11_goes 117 = .ok (.ireturn, 1) := by decide +kernel
theorem dX11_gones_0 : decode cX11_gones 0 = .ok (.iconst 0, 1) := by decide +kernel
theorem dX11_gones_1 : decode cX11_gones 1 = .ok (.istore_n 1, 1) := by decide +kernel
theorem dX11_gones_2 : decode cX11_gones 2 = .ok (.iconst 0, 1) := by decide +kernel
theorem dX11_gones_3 : decode cX11_gones 3 = .ok (.istore_n 2, 1) := by decide +kernel
theorem dX11_gones_4 : decode cX11_gones 4 = .ok (.iload_n 2, 1) := by decide +kernel
theorem dX11_gones_5 : decode cX11_gones 5 = .ok (.aload_n 0, 1) := by decide +kernel
theorem dX11_gones_6 : decode cX11_gones 6 = .ok (.getfield 13, 3) := by decide +kernel
theorem dX11_gones_9 : decode cX11_gones 9 = .ok (.iconst 0, 1) := by decide +kernel
theorem dX11_gones_10 : decode cX11_gones 10 = .ok (.iaload, 1) := by decide +kernel
theorem dX11_gones_11 : decode cX11_gones 11 = .ok (.if_icmp .ge 30, 3) := by decide +kernel
theorem dX11_gones_14 : decode cX11_gones 14 = .ok (.iload_n 1, 1) := by decide +kernel
theorem dX11_gones_15 : decode cX11_gones 15 = .ok (.aload_n 0, 1) := by decide +kernel
theorem dX11_gones_16 : decode cX11_gones 16 = .ok (.getfield 120, 3) := by decide +kernel
theorem dX11_gones_19 : decode cX11_gones 19 = .ok (.iconst 1, 1) := by decide +kernel
theorem dX11_gones_20 : decode cX11_gones 20 = .ok (.iload_n 2, 1) := by decide +kernel
theorem dX11_gones_21 : decode cX11_gones 21 = .ok (.iadd, 1) := by decide +kernel
theorem dX11_gones_22 : decode cX11_gones 22 = .ok (.iaload, 1) := by decide +kernel
theorem dX11_gones_23 : decode cX11_gones 23 = .ok (.ifCond .ne 9, 3) := by decide +kernel
theorem dX11_gones_26 : decode cX11_gones 26 = .ok (.iconst 1, 1) := by decide +kernel
theorem dX11_gones_27 : decode cX11_gones 27 = .ok (.iload_n 2, 1) := by decide +kernel
theorem dX11_gones_28 : decode cX11_gones 28 = .ok (.ishl, 1) := by decide +kernel
theorem dX11_gones_29 : decode cX11_gones 29 = .ok (.goto 4, 3) := by decide +kernel
theorem dX11_gones_32 : decode cX11_gones 32 = .ok (.iconst 0, 1) := by decide +kernel
theorem dX11_gones_33 : decode cX11_gones 33 = .ok (.ior, 1) := by decide +kernel
theorem dX11_gones_34 : decode cX11_gones 34 = .ok (.istore_n 1, 1) := by decide +kernel
theorem dX11_gones_35 : decode cX11_gones 35 = .ok (.iinc 2 1, 3) := by decide +kernel
theorem dX11_gones_38 : decode cX11_gones 38 = .ok (.goto (-34), 3) := by decide +kernel
theorem dX11_gones_41 : decode cX11_gones 41 = .ok (.iload_n 1, 1) := by decide +kernel
theorem dX11_gones_42 : decode cX11_gones 42 = .ok (.ireturn, 1) := by decide +kernel
theorem dX11_judged_0 : decode cX11_judged 0 = .ok (.aload_n 0, 1) := by decide +kernel
theorem dX11_judged_1 : decode cX11_judged 1 = .ok (.iconst 0, 1) := by decide +kernel
theorem dX11_judged_2 : decode cX11_judged 2 = .ok (.putfield 144, 3) := by decide +kernel
theorem dX11_judged_5 : decode cX11_judged 5 = .ok (.iload_n 1, 1) := by decide +kernel
theorem dX11_judged_6 : decode cX11_judged 6 = .ok (.iconst 0, 1) := by decide +kernel
theorem dX11_judged_7 : decode cX11_judged 7 = .ok (.iconst 2, 1) := by decide +kernel
theorem dX11_judged_8 : decode cX11_judged 8 = .ok (.invokestatic 265, 3) := by decide +kernel
theorem dX11_judged_11 : decode cX11_judged 11 = .ok (.ifCond .ne 6, 3) := by decide +kernel
theorem dX11_judged_14 : decode cX11_judged 14 = .ok (.bipush (-2), 2) := by decide +kernel
theorem dX11_judged_16 : decode cX11_judged 16 = .ok (.ireturn, 1) := by decide +kernel
theorem dX11_judged_17 : decode cX11_judged 17 = .ok (.aload_n 0, 1) := by decide +kernel
theorem dX11_judged_18 : decode cX11_judged 18 = .ok (.getfield 120, 3) := by decide +kernel
theorem dX11_judged_21 : decode cX11_judged 21 = .ok (.iconst 0, 1) := by decide +kernel
theorem dX11_judged_22 : decode cX11_judged 22 = .ok (.aload_n 0, 1) := by decide +kernel
theorem dX11_judged_23 : decode cX11_judged 23 = .ok (.getfield 123, 3) := by decide +kernel
theorem dX11_judged_26 : decode cX11_judged 26 = .ok (.iconst 0, 1) := by decide +kernel
theorem dX11_judged_27 : decode cX11_judged 27 = .ok (.invokestatic 405, 3) := by decide +kernel
theorem dX11_judged_30 : decode cX11_judged 30 = .ok (.aload_n 0, 1) := by decide +kernel
theorem dX11_judged_31 : decode cX11_judged 31 = .ok (.invokevirtual 340, 3) := by decide +kernel
theorem dX11_judged_34 : decode cX11_judged 34 = .ok (.iconst (-1), 1) := by decide +kernel
theorem dX11_judged_35 : decode cX11_judged 35 = .ok (.istore_n 2, 1) := by decide +kernel
theorem dX11_judged_36 : decode cX11_judged 36 = .ok (.iconst (-1), 1) := by decide +kernel
theorem dX11_judged_37 : decode cX11_judged 37 = .ok (.istore_n 3, 1) := by decide +kernel
theorem dX11_judged_38 : decode cX11_judged 38 = .ok (.iconst 0, 1) := by decide +kernel
theorem dX11_judged_39 : decode cX11_judged 39 = .ok (.istore 4, 2) := by decide +kernel
theorem dX11_judged_41 : decode cX11_judged 41 = .ok (.iload 4, 2) := by decide +kernel
theorem dX11_judged_43 : decode cX11_judged 43 = .ok (.aload_n 0, 1) := by decide +kernel
theorem dX11_judged_44 : decode cX11_judged 44 = .ok (.getfield 90, 3) := by decide +kernel
theorem dX11_judged_47 : decode cX11_judged 47 = .ok (.iconst 0, 1) := by decide +kernel
theorem dX11_judged_48 : decode cX11_judged 48 = .ok (.iaload, 1) := by decide +kernel
theorem dX11_judged_49 : decode cX11_judged 49 = .ok (.if_icmp .ge 47, 3) := by decide +kernel
theorem dX11_judged_52 : decode cX11_judged 52 = .ok (.aload_n 0, 1) := by decide +kernel
theorem dX11_judged_53 : decode cX11_judged 53 = .ok (.invokevirtual 422, 3) := by decide +kernel
theorem dX11_judged_56 : decode cX11_judged 56 = .ok (.istore 5, 2) := by decide +kernel
theorem dX11_judged_58 : decode cX11_judged 58 = .ok (.aload_n 0, 1) := by decide +kernel
theorem dX11_judged_59 : decode cX11_judged 59 = .ok (.iload 4, 2) := by decide +kernel
theorem dX11_judged_61 : decode cX11_judged 61 = .ok (.invokevirtual 425, 3) := by decide +kernel
theorem dX11_judged_64 : decode cX11_judged 64 = .ok (.ifCond .ne 10, 3) := by decide +kernel
theorem dX11_judged_67 : decode cX11_judged 67 = .ok (.iload_n 2, 1) := by decide +kernel
theorem dX11_judged_68 : decode cX11_judged 68 = .ok (.ifCond .ge 6, 3) := by decide +kernel
theorem dX11_judged_71 : decode cX11_judged 71 = .ok (.iload 4, 2) := by decide +kernel
theorem dX11_judged_73 : decode cX11_judged 73 = .ok (.istore_n 2, 1) := by decide +kernel
theorem dX11_judged_74 : decode cX11_judged 74 = .ok (.aload_n 0, 1) := by decide +kernel
theorem dX11_judged_75 : decode cX11_judged 75 = .ok (.invokevirtual 422, 3) := by decide +kernel
theorem dX11_judged_78 : decode cX11_judged 78 = .ok (.iload 5, 2) := by decide +kernel
theorem dX11_judged_80 : decode cX11_judged 80 = .ok (.if_icmp .eq 10, 3) := by decide +kernel
theorem dX11_judged_83 : decode cX11_judged 83 = .ok (.iload_n 3, 1) := by decide +kernel
theorem dX11_judged_84 : decode cX11_judged 84 = .ok (.ifCond .ge 6, 3) := by decide +kernel
theorem dX11_judged_87 : decode cX11_judged 87 = .ok (.iload 4, 2) := by decide +kernel
theorem dX11_judged_89 : decode cX11_judged 89 = .ok (.istore_n 3, 1) := by decide +kernel
theorem dX11_judged_90 : decode cX11_judged 90 = .ok (.iinc 4 1, 3) := by decide +kernel
theorem dX11_judged_93 : decode cX11_judged 93 = .ok (.goto (-52), 3) := by decide +kernel
theorem dX11_judged_96 : decode cX11_judged 96 = .ok (.aload_n 0, 1) := by decide +kernel
theorem dX11_judged_97 : decode cX11_judged 97 = .ok (.invokevirtual 390, 3) := by decide +kernel
theorem dX11_judged_100 : decode cX11_judged 100 = .ok (.invokestatic 384, 3) := by decide +kernel
theorem dX11_judged_103 : decode cX11_judged 103 = .ok (.istore 4, 2) := by decide +kernel
theorem dX11_judged_105 : decode cX11_judged 105 = .ok (.aload_n 0, 1) := by decide +kernel
theorem dX11_judged_106 : decode cX11_judged 106 = .ok (.getfield 123, 3) := by decide +kernel
theorem dX11_judged_109 : decode cX11_judged 109 = .ok (.iconst 0, 1) := by decide +kernel
theorem dX11_judged_110 : decode cX11_judged 110 = .ok (.aload_n 0, 1) := by decide +kernel
theorem dX11_judged_111 : decode cX11_judged 111 = .ok (.getfield 120, 3) := by decide +kernel
theorem dX11_judged_114 : decode cX11_judged 114 = .ok (.iconst 0, 1) := by decide +kernel
theorem dX11_judged_115 : decode cX11_judged 115 = .ok (.invokestatic 405, 3) := by decide +kernel
theorem dX11_judged_118 : decode cX11_judged 118 = .ok (.iload_n 1, 1) := by decide +kernel
theorem dX11_judged_119 : decode cX11_judged 119 = .ok (.ifCond .ne 7, 3) := by decide +kernel
theorem dX11_judged_122 : decode cX11_judged 122 = .ok (.iload_n 2, 1) := by decide +kernel
theorem dX11_judged_123 : decode cX11_judged 123 = .ok (.goto 14, 3) := by decide +kernel
theorem dX11_judged_126 : decode cX11_judged 126 = .ok (.iload_n 1, 1) := by decide +kernel
theorem dX11_judged_127 : decode cX11_judged 127 = .ok (.iconst 1, 1) := by decide +kernel
theorem dX11_judged_128 : decode cX11_judged 128 = .ok (.if_icmp .ne 7, 3) := by decide +kernel
theorem dX11_judged_131 : decode cX11_judged 131 = .ok (.iload_n 3, 1) := by decide +kernel
theorem dX11_judged_132 : decode cX11_judged 132 = .ok (.goto 5, 3) := by decide +kernel
theorem dX11_judged_135 : decode cX11_judged 135 = .ok (.iload 4, 2) := by decide +kernel
theorem dX11_judged_137 : decode cX11_judged 137 = .ok (.ireturn, 1) := by decide +kernel
theorem dX11_later_0 : decode cX11_later 0 = .ok (.aload_n 0, 1) := by decide +kernel
theorem dX11_later_1 : decode cX11_later 1 = .ok (.iconst 0, 1) := by decide +kernel
theorem dX11_later_2 : decode cX11_later 2 = .ok (.putfield 144, 3) := by decide +kernel
theorem dX11_later_5 : decode cX11_later 5 = .ok (.aload_n 0, 1) := by decide +kernel
theorem dX11_later_6 : decode cX11_later 6 = .ok (.iload_n 1, 1) := by decide +kernel
theorem dX11_later_7 : decode cX11_later 7 = .ok (.iload_n 2, 1) := by decide +kernel
theorem dX11_later_8 : decode cX11_later 8 = .ok (.invokevirtual 396, 3) := by decide +kernel
theorem dX11_later_11 : decode cX11_later 11 = .ok (.ifCond .eq 34, 3) := by decide +kernel
theorem dX11_later_14 : decode cX11_later 14 = .ok (.iload_n 3, 1) := by decide +kernel
theorem dX11_later_15 : decode cX11_later 15 = .ok (.iconst 0, 1) := by decide +kernel
theorem dX11_later_16 : decode cX11_later 16 = .ok (.bipush 40, 2) := by decide +kernel
theorem dX11_later_18 : decode cX11_later 18 = .ok (.invokestatic 265, 3) := by decide +kernel
theorem dX11_later_21 : decode cX11_later 21 = .ok (.ifCond .eq 24, 3) := by decide +kernel
theorem dX11_later_24 : decode cX11_later 24 = .ok (.aload_n 0, 1) := by decide +kernel
theorem dX11_later_25 : decode cX11_later 25 = .ok (.iload_n 1, 1) := by decide +kernel
theorem dX11_later_26 : decode cX11_later 26 = .ok (.iload_n 2, 1) := by decide +kernel
theorem dX11_later_27 : decode cX11_later 27 = .ok (.aload_n 0, 1) := by decide +kernel
theorem dX11_later_28 : decode cX11_later 28 = .ok (.aload_n 0, 1) := by decide +kernel
theorem dX11_later_29 : decode cX11_later 29 = .ok (.getfield 120, 3) := by decide +kernel
theorem dX11_later_32 : decode cX11_later 32 = .ok (.iconst 0, 1) := by decide +kernel
theorem dX11_later_33 : decode cX11_later 33 = .ok (.iaload, 1) := by decide +kernel
theorem dX11_later_34 : decode cX11_later 34 = .ok (.iload_n 3, 1) := by decide +kernel
theorem dX11_later_35 : decode cX11_later 35 = .ok (.iadd, 1) := by decide +kernel
theorem dX11_later_36 : decode cX11_later 36 = .ok (.invokevirtual 367, 3) := by decide +kernel
theorem dX11_later_39 : decode cX11_later 39 = .ok (.invokevirtual 363, 3) := by decide +kernel
theorem dX11_later_42 : decode cX11_later 42 = .ok (.goto 4, 3) := by decide +kernel
theorem dX11_later_45 : decode cX11_later 45 = .ok (.iconst (-1), 1) := by decide +kernel
theorem dX11_later_46 : decode cX11_later 46 = .ok (.ireturn, 1) := by decide +kernel
theorem dX11_when_0 : decode cX11_when 0 = .ok (.aload_n 0, 1) := by decide +kernel
theorem dX11_when_1 : decode cX11_when 1 = .ok (.iconst 0, 1) := by decide +kernel
theorem dX11_when_2 : decode cX11_when 2 = .ok (.putfield 144, 3) := by decide +kernel
theorem dX11_when_5 : decode cX11_when 5 = .ok (.aload_n 0, 1) := by decide +kernel
theorem dX11_when_6 : decode cX11_when 6 = .ok (.iload_n 1, 1) := by decide +kernel
theorem dX11_when_7 : decode cX11_when 7 = .ok (.invokevirtual 387, 3) := by decide +kernel
theorem dX11_when_10 : decode cX11_when 10 = .ok (.ifCond .ne 5, 3) := by decide +kernel
theorem dX11_when_13 : decode cX11_when 13 = .ok (.iconst (-1), 1) := by decide +kernel
theorem dX11_when_14 : decode cX11_when 14 = .ok (.ireturn, 1) := by decide +kernel
theorem dX11_when_15 : decode cX11_when 15 = .ok (.iconst 0, 1) := by decide +kernel
theorem dX11_when_16 : decode cX11_when 16 = .ok (.istore_n 2, 1) := by decide +kernel
theorem dX11_when_17 : decode cX11_when 17 = .ok (.iload_n 2, 1) := by decide +kernel
theorem dX11_when_18 : decode cX11_when 18 = .ok (.bipush 40, 2) := by decide +kernel
theorem dX11_when_20 : decode cX11_when 20 = .ok (.if_icmp .gt 35, 3) := by decide +kernel
theorem dX11_when_23 : decode cX11_when 23 = .ok (.aload_n 0, 1) := by decide +kernel
theorem dX11_when_24 : decode cX11_when 24 = .ok (.aload_n 0, 1) := by decide +kernel
theorem dX11_when_25 : decode cX11_when 25 = .ok (.aload_n 0, 1) := by decide +kernel
theorem dX11_when_26 : decode cX11_when 26 = .ok (.getfield 120, 3) := by decide +kernel
theorem dX11_when_29 : decode cX11_when 29 = .ok (.iconst 0, 1) := by decide +kernel
theorem dX11_when_30 : decode cX11_when 30 = .ok (.iaload, 1) := by decide +kernel
theorem dX11_when_31 : decode cX11_when 31 = .ok (.iload_n 2, 1) := by decide +kernel
theorem dX11_when_32 : decode cX11_when 32 = .ok (.iadd, 1) := by decide +kernel
theorem dX11_when_33 : decode cX11_when 33 = .ok (.invokevirtual 367, 3) := by decide +kernel
theorem dX11_when_36 : decode cX11_when 36 = .ok (.invokevirtual 370, 3) := by decide +kernel
theorem dX11_when_39 : decode cX11_when 39 = .ok (.iload_n 1, 1) := by decide +kernel
theorem dX11_when_40 : decode cX11_when 40 = .ok (.ishr, 1) := by decide +kernel
theorem dX11_when_41 : decode cX11_when 41 = .ok (.iconst 1, 1) := by decide +kernel
theorem dX11_when_42 : decode cX11_when 42 = .ok (.iand, 1) := by decide +kernel
theorem dX11_when_43 : decode cX11_when 43 = .ok (.iconst 1, 1) := by decide +kernel
theorem dX11_when_44 : decode cX11_when 44 = .ok (.if_icmp .ne 5, 3) := by decide +kernel
theorem dX11_when_47 : decode cX11_when 47 = .ok (.iload_n 2, 1) := by decide +kernel
theorem dX11_when_48 : decode cX11_when 48 = .ok (.ireturn, 1) := by decide +kernel
theorem dX11_when_49 : decode cX11_when 49 = .ok (.iinc 2 1, 3) := by decide +kernel
theorem dX11_when_52 : decode cX11_when 52 = .ok (.goto (-35), 3) := by decide +kernel
theorem dX11_when_55 : decode cX11_when 55 = .ok (.iconst (-1), 1) := by decide +kernel
theorem dX11_when_56 : decode cX11_when 56 = .ok (.ireturn, 1) := by decide +kernel
theorem dX11_need_0 : decode cX11_need 0 = .ok (.aload_n 0, 1) := by decide +kernel
theorem dX11_need_1 : decode cX11_need 1 = .ok (.iconst 0, 1) := by decide +kernel
theorem dX11_need_2 : decode cX11_need 2 = .ok (.putfield 144, 3) := by decide +kernel
theorem dX11_need_5 : decode cX11_need 5 = .ok (.aload_n 0, 1) := by decide +kernel
theorem dX11_need_6 : decode cX11_need 6 = .ok (.iload_n 1, 1) := by decide +kernel
theorem dX11_need_7 : decode cX11_need 7 = .ok (.invokevirtual 387, 3) := by decide +kernel
theorem dX11_need_10 : decode cX11_need 10 = .ok (.ifCond .ne 5, 3) := by decide +kernel
theorem dX11_need_13 : decode cX11_need 13 = .ok (.iconst (-1), 1) := by decide +kernel
theorem dX11_need_14 : decode cX11_need 14 = .ok (.ireturn, 1) := by decide +kernel
theorem dX11_need_15 : decode cX11_need 15 = .ok (.iconst 0, 1) := by decide +kernel
theorem dX11_need_16 : decode cX11_need 16 = .ok (.istore_n 2, 1) := by decide +kernel
theorem dX11_need_17 : decode cX11_need 17 = .ok (.iload_n 2, 1) := by decide +kernel
theorem dX11_need_18 : decode cX11_need 18 = .ok (.bipush 10, 2) := by decide +kernel
theorem dX11_need_20 : decode cX11_need 20 = .ok (.if_icmp .ge 24, 3) := by decide +kernel
theorem dX11_need_23 : decode cX11_need 23 = .ok (.aload_n 0, 1) := by decide +kernel
theorem dX11_need_24 : decode cX11_need 24 = .ok (.iload_n 2, 1) := by decide +kernel
theorem dX11_need_25 : decode cX11_need 25 = .ok (.invokevirtual 370, 3) := by decide +kernel
theorem dX11_need_28 : decode cX11_need 28 = .ok (.iload_n 1, 1) := by decide +kernel
theorem dX11_need_29 : decode cX11_need 29 = .ok (.ishr, 1) := by decide +kernel
theorem dX11_need_30 : decode cX11_need 30 = .ok (.iconst 1, 1) := by decide +kernel
theorem dX11_need_31 : decode cX11_need 31 = .ok (.iand, 1) := by decide +kernel
theorem dX11_need_32 : decode cX11_need 32 = .ok (.iconst 1, 1) := by decide +kernel
theorem dX11_need_33 : decode cX11_need 33 = .ok (.if_icmp .ne 5, 3) := by decide +kernel
theorem dX11_need_36 : decode cX11_need 36 = .ok (.iload_n 2, 1) := by decide +kernel
theorem dX11_need_37 : decode cX11_need 37 = .ok (.ireturn, 1) := by decide +kernel
theorem dX11_need_38 : decode cX11_need 38 = .ok (.iinc 2 1, 3) := by decide +kernel
theorem dX11_need_41 : decode cX11_need 41 = .ok (.goto (-24), 3) := by decide +kernel
theorem dX11_need_44 : decode cX11_need 44 = .ok (.iconst (-1), 1) := by decide +kernel
theorem dX11_need_45 : decode cX11_need 45 = .ok (.ireturn, 1) := by decide +kernel
theorem dX11_psalter_0 : decode cX11_psalter 0 = .ok (.aload_n 0, 1) := by decide +kernel
theorem dX11_psalter_1 : decode cX11_psalter 1 = .ok (.iconst 0, 1) := by decide +kernel
theorem dX11_psalter_2 : decode cX11_psalter 2 = .ok (.putfield 144, 3) := by decide +kernel
theorem dX11_psalter_5 : decode cX11_psalter 5 = .ok (.aload_n 0, 1) := by decide +kernel
theorem dX11_psalter_6 : decode cX11_psalter 6 = .ok (.iload_n 1, 1) := by decide +kernel
theorem dX11_psalter_7 : decode cX11_psalter 7 = .ok (.invokevirtual 387, 3) := by decide +kernel
theorem dX11_psalter_10 : decode cX11_psalter 10 = .ok (.ifCond .ne 5, 3) := by decide +kernel
theorem dX11_psalter_13 : decode cX11_psalter 13 = .ok (.iconst (-1), 1) := by decide +kernel
theorem dX11_psalter_14 : decode cX11_psalter 14 = .ok (.ireturn, 1) := by decide +kernel
theorem dX11_psalter_15 : decode cX11_psalter 15 = .ok (.iconst 0, 1) := by decide +kernel
theorem dX11_psalter_16 : decode cX11_psalter 16 = .ok (.istore_n 2, 1) := by decide +kernel
theorem dX11_psalter_17 : decode cX11_psalter 17 = .ok (.iconst 0, 1) := by decide +kernel
theorem dX11_psalter_18 : decode cX11_psalter 18 = .ok (.istore_n 3, 1) := by decide +kernel
theorem dX11_psalter_19 : decode cX11_psalter 19 = .ok (.iload_n 3, 1) := by decide +kernel
theorem dX11_psalter_20 : decode cX11_psalter 20 = .ok (.bipush 10, 2) := by decide +kernel
theorem dX11_psalter_22 : decode cX11_psalter 22 = .ok (.if_icmp .ge 21, 3) := by decide +kernel
theorem dX11_psalter_25 : decode cX11_psalter 25 = .ok (.iload_n 2, 1) := by decide +kernel
theorem dX11_psalter_26 : decode cX11_psalter 26 = .ok (.aload_n 0, 1) := by decide +kernel
theorem dX11_psalter_27 : decode cX11_psalter 27 = .ok (.iload_n 3, 1) := by decide +kernel
theorem dX11_psalter_28 : decode cX11_psalter 28 = .ok (.invokevirtual 370, 3) := by decide +kernel
theorem dX11_psalter_31 : decode cX11_psalter 31 = .ok (.iload_n 1, 1) := by decide +kernel
theorem dX11_psalter_32 : decode cX11_psalter 32 = .ok (.ishr, 1) := by decide +kernel
theorem dX11_psalter_33 : decode cX11_psalter 33 = .ok (.iconst 1, 1) := by decide +kernel
theorem dX11_psalter_34 : decode cX11_psalter 34 = .ok (.iand, 1) := by decide +kernel
theorem dX11_psalter_35 : decode cX11_psalter 35 = .ok (.iadd, 1) := by decide +kernel
theorem dX11_psalter_36 : decode cX11_psalter 36 = .ok (.istore_n 2, 1) := by decide +kernel
theorem dX11_psalter_37 : decode cX11_psalter 37 = .ok (.iinc 3 1, 3) := by decide +kernel
theorem dX11_psalter_40 : decode cX11_psalter 40 = .ok (.goto (-21), 3) := by decide +kernel
theorem dX11_psalter_43 : decode cX11_psalter 43 = .ok (.iload_n 2, 1) := by decide +kernel
theorem dX11_psalter_44 : decode cX11_psalter 44 = .ok (.ireturn, 1) := by decide +kernel
theorem dX11_lost_0 : decode cX11_lost 0 = .ok (.aload_n 0, 1) := by decide +kernel
theorem dX11_lost_1 : decode cX11_lost 1 = .ok (.iconst 0, 1) := by decide +kernel
theorem dX11_lost_2 : decode cX11_lost 2 = .ok (.putfield 144, 3) := by decide +kernel
theorem dX11_lost_5 : decode cX11_lost 5 = .ok (.iconst 0, 1) := by decide +kernel
theorem dX11_lost_6 : decode cX11_lost 6 = .ok (.istore_n 1, 1) := by decide +kernel
theorem dX11_lost_7 : decode cX11_lost 7 = .ok (.iconst 0, 1) := by decide +kernel
theorem dX11_lost_8 : decode cX11_lost 8 = .ok (.istore_n 2, 1) := by decide +kernel
theorem dX11_lost_9 : decode cX11_lost 9 = .ok (.iconst 0, 1) := by decide +kernel
theorem dX11_lost_10 : decode cX11_lost 10 = .ok (.istore_n 3, 1) := by decide +kernel
theorem dX11_lost_11 : decode cX11_lost 11 = .ok (.iload_n 3, 1) := by decide +kernel
theorem dX11_lost_12 : decode cX11_lost 12 = .ok (.aload_n 0, 1) := by decide +kernel
theorem dX11_lost_13 : decode cX11_lost 13 = .ok (.getfield 13, 3) := by decide +kernel
theorem dX11_lost_16 : decode cX11_lost 16 = .ok (.iconst 0, 1) := by decide +kernel
theorem dX11_lost_17 : decode cX11_lost 17 = .ok (.iaload, 1) := by decide +kernel
theorem dX11_lost_18 : decode cX11_lost 18 = .ok (.if_icmp .ge 116, 3) := by decide +kernel
theorem dX11_lost_21 : decode cX11_lost 21 = .ok (.iconst 0, 1) := by decide +kernel
theorem dX11_lost_22 : decode cX11_lost 22 = .ok (.istore 4, 2) := by decide +kernel
theorem dX11_lost_24 : decode cX11_lost 24 = .ok (.iload 4, 2) := by decide +kernel
theorem dX11_lost_26 : decode cX11_lost 26 = .ok (.aload_n 0, 1) := by decide +kernel
theorem dX11_lost_27 : decode cX11_lost 27 = .ok (.getfield 23, 3) := by decide +kernel
theorem dX11_lost_30 : decode cX11_lost 30 = .ok (.iload_n 3, 1) := by decide +kernel
theorem dX11_lost_31 : decode cX11_lost 31 = .ok (.iaload, 1) := by decide +kernel
theorem dX11_lost_32 : decode cX11_lost 32 = .ok (.if_icmp .ge 96, 3) := by decide +kernel
theorem dX11_lost_35 : decode cX11_lost 35 = .ok (.aload_n 0, 1) := by decide +kernel
theorem dX11_lost_36 : decode cX11_lost 36 = .ok (.getfield 120, 3) := by decide +kernel
theorem dX11_lost_39 : decode cX11_lost 39 = .ok (.bipush 7, 2) := by decide +kernel
theorem dX11_lost_41 : decode cX11_lost 41 = .ok (.bipush 6, 2) := by decide +kernel
theorem dX11_lost_43 : decode cX11_lost 43 = .ok (.iload_n 3, 1) := by decide +kernel
theorem dX11_lost_44 : decode cX11_lost 44 = .ok (.imul, 1) := by decide +kernel
theorem dX11_lost_45 : decode cX11_lost 45 = .ok (.iadd, 1) := by decide +kernel
theorem dX11_lost_46 : decode cX11_lost 46 = .ok (.iload 4, 2) := by decide +kernel
theorem dX11_lost_48 : decode cX11_lost 48 = .ok (.iadd, 1) := by decide +kernel
theorem dX11_lost_49 : decode cX11_lost 49 = .ok (.iaload, 1) := by decide +kernel
theorem dX11_lost_50 : decode cX11_lost 50 = .ok (.istore 5, 2) := by decide +kernel
theorem dX11_lost_52 : decode cX11_lost 52 = .ok (.iload 5, 2) := by decide +kernel
theorem dX11_lost_54 : decode cX11_lost 54 = .ok (.ifCond .le 25, 3) := by decide +kernel
theorem dX11_lost_57 : decode cX11_lost 57 = .ok (.iload_n 1, 1) := by decide +kernel
theorem dX11_lost_58 : decode cX11_lost 58 = .ok (.iconst 1, 1) := by decide +kernel
theorem dX11_lost_59 : decode cX11_lost 59 = .ok (.iload 5, 2) := by decide +kernel
theorem dX11_lost_61 : decode cX11_lost 61 = .ok (.bipush 7, 2) := by decide +kernel
theorem dX11_lost_63 : decode cX11_lost 63 = .ok (.irem, 1) := by decide +kernel
theorem dX11_lost_64 : decode cX11_lost 64 = .ok (.iconst 1, 1) := by decide +kernel
theorem dX11_lost_65 : decode cX11_lost 65 = .ok (.isub, 1) := by decide +kernel
theorem dX11_lost_66 : decode cX11_lost 66 = .ok (.ishl, 1) := by decide +kernel
theorem dX11_lost_67 : decode cX11_lost 67 = .ok (.ior, 1) := by decide +kernel
theorem dX11_lost_68 : decode cX11_lost 68 = .ok (.istore_n 1, 1) := by decide +kernel
theorem dX11_lost_69 : decode cX11_lost 69 = .ok (.iload 5, 2) := by decide +kernel
theorem dX11_lost_71 : decode cX11_lost 71 = .ok (.bipush 7, 2) := by decide +kernel
theorem dX11_lost_73 : decode cX11_lost 73 = .ok (.idiv, 1) := by decide +kernel
theorem dX11_lost_74 : decode cX11_lost 74 = .ok (.istore 5, 2) := by decide +kernel
theorem dX11_lost_76 : decode cX11_lost 76 = .ok (.goto (-24), 3) := by decide +kernel
theorem dX11_lost_79 : decode cX11_lost 79 = .ok (.iconst 0, 1) := by decide +kernel
theorem dX11_lost_80 : decode cX11_lost 80 = .ok (.istore 5, 2) := by decide +kernel
theorem dX11_lost_82 : decode cX11_lost 82 = .ok (.iload 5, 2) := by decide +kernel
theorem dX11_lost_84 : decode cX11_lost 84 = .ok (.bipush 10, 2) := by decide +kernel
theorem dX11_lost_86 : decode cX11_lost 86 = .ok (.if_icmp .ge 36, 3) := by decide +kernel
theorem dX11_lost_89 : decode cX11_lost 89 = .ok (.aload_n 0, 1) := by decide +kernel
theorem dX11_lost_90 : decode cX11_lost 90 = .ok (.iload_n 3, 1) := by decide +kernel
theorem dX11_lost_91 : decode cX11_lost 91 = .ok (.iload 4, 2) := by decide +kernel
theorem dX11_lost_93 : decode cX11_lost 93 = .ok (.iload 5, 2) := by decide +kernel
theorem dX11_lost_95 : decode cX11_lost 95 = .ok (.invokevirtual 363, 3) := by decide +kernel
theorem dX11_lost_98 : decode cX11_lost 98 = .ok (.istore 6, 2) := by decide +kernel
theorem dX11_lost_100 : decode cX11_lost 100 = .ok (.iload_n 2, 1) := by decide +kernel
theorem dX11_lost_101 : decode cX11_lost 101 = .ok (.iload 6, 2) := by decide +kernel
theorem dX11_lost_103 : decode cX11_lost 103 = .ok (.ifCond .ge 7, 3) := by decide +kernel
theorem dX11_lost_106 : decode cX11_lost 106 = .ok (.iconst 0, 1) := by decide +kernel
theorem dX11_lost_107 : decode cX11_lost 107 = .ok (.goto 7, 3) := by decide +kernel
theorem dX11_lost_110 : decode cX11_lost 110 = .ok (.iconst 1, 1) := by decide +kernel
theorem dX11_lost_111 : decode cX11_lost 111 = .ok (.iload 6, 2) := by decide +kernel
theorem dX11_lost_113 : decode cX11_lost 113 = .ok (.ishl, 1) := by decide +kernel
theorem dX11_lost_114 : decode cX11_lost 114 = .ok (.ior, 1) := by decide +kernel
theorem dX11_lost_115 : decode cX11_lost 115 = .ok (.istore_n 2, 1) := by decide +kernel
theorem dX11_lost_116 : decode cX11_lost 116 = .ok (.iinc 5 1, 3) := by decide +kernel
theorem dX11_lost_119 : decode cX11_lost 119 = .ok (.goto (-37), 3) := by decide +kernel
theorem dX11_lost_122 : decode cX11_lost 122 = .ok (.iinc 4 1, 3) := by decide +kernel
theorem dX11_lost_125 : decode cX11_lost 125 = .ok (.goto (-101), 3) := by decide +kernel
theorem dX11_lost_128 : decode cX11_lost 128 = .ok (.iinc 3 1, 3) := by decide +kernel
theorem dX11_lost_131 : decode cX11_lost 131 = .ok (.goto (-120), 3) := by decide +kernel
theorem dX11_lost_134 : decode cX11_lost 134 = .ok (.iload_n 1, 1) := by decide +kernel
theorem dX11_lost_135 : decode cX11_lost 135 = .ok (.iload_n 2, 1) := by decide +kernel
theorem dX11_lost_136 : decode cX11_lost 136 = .ok (.iconst (-1), 1) := by decide +kernel
theorem dX11_lost_137 : decode cX11_lost 137 = .ok (.ixor, 1) := by decide +kernel
theorem dX11_lost_138 : decode cX11_lost 138 = .ok (.iand, 1) := by decide +kernel
theorem dX11_lost_139 : decode cX11_lost 139 = .ok (.ireturn, 1) := by decide +kernel
theorem dX11_place_0 : decode cX11_place 0 = .ok (.aload_n 0, 1) := by decide +kernel
theorem dX11_place_1 : decode cX11_place 1 = .ok (.iconst 0, 1) := by decide +kernel
theorem dX11_place_2 : decode cX11_place 2 = .ok (.putfield 144, 3) := by decide +kernel
theorem dX11_place_5 : decode cX11_place 5 = .ok (.aload_n 0, 1) := by decide +kernel
theorem dX11_place_6 : decode cX11_place 6 = .ok (.iload_n 1, 1) := by decide +kernel
theorem dX11_place_7 : decode cX11_place 7 = .ok (.invokevirtual 387, 3) := by decide +kernel
theorem dX11_place_10 : decode cX11_place 10 = .ok (.ifCond .eq 20, 3) := by decide +kernel
theorem dX11_place_13 : decode cX11_place 13 = .ok (.aload_n 0, 1) := by decide +kernel
theorem dX11_place_14 : decode cX11_place 14 = .ok (.iload_n 2, 1) := by decide +kernel
theorem dX11_place_15 : decode cX11_place 15 = .ok (.invokevirtual 353, 3) := by decide +kernel
theorem dX11_place_18 : decode cX11_place 18 = .ok (.ifCond .eq 12, 3) := by decide +kernel
theorem dX11_place_21 : decode cX11_place 21 = .ok (.aload_n 0, 1) := by decide +kernel
theorem dX11_place_22 : decode cX11_place 22 = .ok (.iload_n 1, 1) := by decide +kernel
theorem dX11_place_23 : decode cX11_place 23 = .ok (.iload_n 2, 1) := by decide +kernel
theorem dX11_place_24 : decode cX11_place 24 = .ok (.invokevirtual 428, 3) := by decide +kernel
theorem dX11_place_27 : decode cX11_place 27 = .ok (.goto 4, 3) := by decide +kernel
theorem dX11_place_30 : decode cX11_place 30 = .ok (.iconst (-1), 1) := by decide +kernel
theorem dX11_place_31 : decode cX11_place 31 = .ok (.ireturn, 1) := by decide +kernel
theorem dX11_costBy_0 : decode cX11_costBy 0 = .ok (.aload_n 0, 1) := by decide +kernel
theorem dX11_costBy_1 : decode cX11_costBy 1 = .ok (.iload_n 2, 1) := by decide +kernel
theorem dX11_costBy_2 : decode cX11_costBy 2 = .ok (.iload_n 3, 1) := by decide +kernel
theorem dX11_costBy_3 : decode cX11_costBy 3 = .ok (.invokevirtual 374, 3) := by decide +kernel
theorem dX11_costBy_6 : decode cX11_costBy 6 = .ok (.istore 4, 2) := by decide +kernel
theorem dX11_costBy_8 : decode cX11_costBy 8 = .ok (.iload 4, 2) := by decide +kernel
theorem dX11_costBy_10 : decode cX11_costBy 10 = .ok (.ifCond .eq 16, 3) := by decide +kernel
theorem dX11_costBy_13 : decode cX11_costBy 13 = .ok (.iload 4, 2) := by decide +kernel
theorem dX11_costBy_15 : decode cX11_costBy 15 = .ok (.aload_n 0, 1) := by decide +kernel
theorem dX11_costBy_16 : decode cX11_costBy 16 = .ok (.getfield 120, 3) := by decide +kernel
theorem dX11_costBy_19 : decode cX11_costBy 19 = .ok (.iconst 1, 1) := by decide +kernel
theorem dX11_costBy_20 : decode cX11_costBy 20 = .ok (.iload_n 2, 1) := by decide +kernel
theorem dX11_costBy_21 : decode cX11_costBy 21 = .ok (.iadd, 1) := by decide +kernel
theorem dX11_costBy_22 : decode cX11_costBy 22 = .ok (.iaload, 1) := by decide +kernel
theorem dX11_costBy_23 : decode cX11_costBy 23 = .ok (.if_icmp .lt 5, 3) := by decide +kernel
theorem dX11_costBy_26 : decode cX11_costBy 26 = .ok (.iconst (-1), 1) := by decide +kernel
theorem dX11_costBy_27 : decode cX11_costBy 27 = .ok (.ireturn, 1) := by decide +kernel
theorem dX11_costBy_28 : decode cX11_costBy 28 = .ok (.aload_n 0, 1) := by decide +kernel
theorem dX11_costBy_29 : decode cX11_costBy 29 = .ok (.getfield 120, 3) := by decide +kernel
theorem dX11_costBy_32 : decode cX11_costBy 32 = .ok (.iconst 0, 1) := by decide +kernel
theorem dX11_costBy_33 : decode cX11_costBy 33 = .ok (.aload_n 0, 1) := by decide +kernel
theorem dX11_costBy_34 : decode cX11_costBy 34 = .ok (.getfield 126, 3) := by decide +kernel
theorem dX11_costBy_37 : decode cX11_costBy 37 = .ok (.iconst 0, 1) := by decide +kernel
theorem dX11_costBy_38 : decode cX11_costBy 38 = .ok (.invokestatic 405, 3) := by decide +kernel
theorem dX11_costBy_41 : decode cX11_costBy 41 = .ok (.aload_n 0, 1) := by decide +kernel
theorem dX11_costBy_42 : decode cX11_costBy 42 = .ok (.iload_n 2, 1) := by decide +kernel
theorem dX11_costBy_43 : decode cX11_costBy 43 = .ok (.iload_n 3, 1) := by decide +kernel
theorem dX11_costBy_44 : decode cX11_costBy 44 = .ok (.invokevirtual 416, 3) := by decide +kernel
theorem dX11_costBy_47 : decode cX11_costBy 47 = .ok (.aload_n 0, 1) := by decide +kernel
theorem dX11_costBy_48 : decode cX11_costBy 48 = .ok (.iload_n 1, 1) := by decide +kernel
theorem dX11_costBy_49 : decode cX11_costBy 49 = .ok (.iload_n 2, 1) := by decide +kernel
theorem dX11_costBy_50 : decode cX11_costBy 50 = .ok (.invokevirtual 428, 3) := by decide +kernel
theorem dX11_costBy_53 : decode cX11_costBy 53 = .ok (.ifCond .lt 7, 3) := by decide +kernel
theorem dX11_costBy_56 : decode cX11_costBy 56 = .ok (.iconst 1, 1) := by decide +kernel
theorem dX11_costBy_57 : decode cX11_costBy 57 = .ok (.goto 4, 3) := by decide +kernel
theorem dX11_costBy_60 : decode cX11_costBy 60 = .ok (.iconst 0, 1) := by decide +kernel
theorem dX11_costBy_61 : decode cX11_costBy 61 = .ok (.istore 5, 2) := by decide +kernel
theorem dX11_costBy_63 : decode cX11_costBy 63 = .ok (.aload_n 0, 1) := by decide +kernel
theorem dX11_costBy_64 : decode cX11_costBy 64 = .ok (.getfield 126, 3) := by decide +kernel
theorem dX11_costBy_67 : decode cX11_costBy 67 = .ok (.iconst 0, 1) := by decide +kernel
theorem dX11_costBy_68 : decode cX11_costBy 68 = .ok (.aload_n 0, 1) := by decide +kernel
theorem dX11_costBy_69 : decode cX11_costBy 69 = .ok (.getfield 120, 3) := by decide +kernel
theorem dX11_costBy_72 : decode cX11_costBy 72 = .ok (.iconst 0, 1) := by decide +kernel
theorem dX11_costBy_73 : decode cX11_costBy 73 = .ok (.invokestatic 405, 3) := by decide +kernel
theorem dX11_costBy_76 : decode cX11_costBy 76 = .ok (.iload 5, 2) := by decide +kernel
theorem dX11_costBy_78 : decode cX11_costBy 78 = .ok (.ifCond .eq 8, 3) := by decide +kernel
theorem dX11_costBy_81 : decode cX11_costBy 81 = .ok (.iload 4, 2) := by decide +kernel
theorem dX11_costBy_83 : decode cX11_costBy 83 = .ok (.goto 4, 3) := by decide +kernel
theorem dX11_costBy_86 : decode cX11_costBy 86 = .ok (.iconst (-1), 1) := by decide +kernel
theorem dX11_costBy_87 : decode cX11_costBy 87 = .ok (.ireturn, 1) := by decide +kernel
theorem dX11_cost_0 : decode cX11_cost 0 = .ok (.aload_n 0, 1) := by decide +kernel
theorem dX11_cost_1 : decode cX11_cost 1 = .ok (.iconst 0, 1) := by decide +kernel
theorem dX11_cost_2 : decode cX11_cost 2 = .ok (.putfield 144, 3) := by decide +kernel
theorem dX11_cost_5 : decode cX11_cost 5 = .ok (.aload_n 0, 1) := by decide +kernel
theorem dX11_cost_6 : decode cX11_cost 6 = .ok (.iload_n 1, 1) := by decide +kernel
theorem dX11_cost_7 : decode cX11_cost 7 = .ok (.invokevirtual 387, 3) := by decide +kernel
theorem dX11_cost_10 : decode cX11_cost 10 = .ok (.ifCond .eq 11, 3) := by decide +kernel
theorem dX11_cost_13 : decode cX11_cost 13 = .ok (.aload_n 0, 1) := by decide +kernel
theorem dX11_cost_14 : decode cX11_cost 14 = .ok (.iload_n 2, 1) := by decide +kernel
theorem dX11_cost_15 : decode cX11_cost 15 = .ok (.invokevirtual 353, 3) := by decide +kernel
theorem dX11_cost_18 : decode cX11_cost 18 = .ok (.ifCond .ne 5, 3) := by decide +kernel
theorem dX11_cost_21 : decode cX11_cost 21 = .ok (.iconst (-1), 1) := by decide +kernel
theorem dX11_cost_22 : decode cX11_cost 22 = .ok (.ireturn, 1) := by decide +kernel
theorem dX11_cost_23 : decode cX11_cost 23 = .ok (.aload_n 0, 1) := by decide +kernel
theorem dX11_cost_24 : decode cX11_cost 24 = .ok (.iload_n 1, 1) := by decide +kernel
theorem dX11_cost_25 : decode cX11_cost 25 = .ok (.iload_n 2, 1) := by decide +kernel
theorem dX11_cost_26 : decode cX11_cost 26 = .ok (.invokevirtual 428, 3) := by decide +kernel
theorem dX11_cost_29 : decode cX11_cost 29 = .ok (.ifCond .lt 5, 3) := by decide +kernel
theorem dX11_cost_32 : decode cX11_cost 32 = .ok (.iconst 0, 1) := by decide +kernel
theorem dX11_cost_33 : decode cX11_cost 33 = .ok (.ireturn, 1) := by decide +kernel
theorem dX11_cost_34 : decode cX11_cost 34 = .ok (.aload_n 0, 1) := by decide +kernel
theorem dX11_cost_35 : decode cX11_cost 35 = .ok (.iload_n 1, 1) := by decide +kernel
theorem dX11_cost_36 : decode cX11_cost 36 = .ok (.iload_n 2, 1) := by decide +kernel
theorem dX11_cost_37 : decode cX11_cost 37 = .ok (.bipush 9, 2) := by decide +kernel
theorem dX11_cost_39 : decode cX11_cost 39 = .ok (.invokevirtual 431, 3) := by decide +kernel
theorem dX11_cost_42 : decode cX11_cost 42 = .ok (.istore_n 3, 1) := by decide +kernel
theorem dX11_cost_43 : decode cX11_cost 43 = .ok (.aload_n 0, 1) := by decide +kernel
theorem dX11_cost_44 : decode cX11_cost 44 = .ok (.iload_n 1, 1) := by decide +kernel
theorem dX11_cost_45 : decode cX11_cost 45 = .ok (.iload_n 2, 1) := by decide +kernel
theorem dX11_cost_46 : decode cX11_cost 46 = .ok (.bipush 63, 2) := by decide +kernel
theorem dX11_cost_48 : decode cX11_cost 48 = .ok (.invokevirtual 431, 3) := by decide +kernel
theorem dX11_cost_51 : decode cX11_cost 51 = .ok (.istore 4, 2) := by decide +kernel
theorem dX11_cost_53 : decode cX11_cost 53 = .ok (.iload_n 3, 1) := by decide +kernel
theorem dX11_cost_54 : decode cX11_cost 54 = .ok (.ifCond .ge 8, 3) := by decide +kernel
theorem dX11_cost_57 : decode cX11_cost 57 = .ok (.iload 4, 2) := by decide +kernel
theorem dX11_cost_59 : decode cX11_cost 59 = .ok (.goto 18, 3) := by decide +kernel
theorem dX11_cost_62 : decode cX11_cost 62 = .ok (.iload 4, 2) := by decide +kernel
theorem dX11_cost_64 : decode cX11_cost 64 = .ok (.ifCond .ge 7, 3) := by decide +kernel
theorem dX11_cost_67 : decode cX11_cost 67 = .ok (.iload_n 3, 1) := by decide +kernel
theorem dX11_cost_68 : decode cX11_cost 68 = .ok (.goto 9, 3) := by decide +kernel
theorem dX11_cost_71 : decode cX11_cost 71 = .ok (.iload_n 3, 1) := by decide +kernel
theorem dX11_cost_72 : decode cX11_cost 72 = .ok (.iload 4, 2) := by decide +kernel
theorem dX11_cost_74 : decode cX11_cost 74 = .ok (.invokestatic 434, 3) := by decide +kernel
theorem dX11_cost_77 : decode cX11_cost 77 = .ok (.ireturn, 1) := by decide +kernel
theorem dX11_writesAll_0 : decode cX11_writesAll 0 = .ok (.iload_n 2, 1) := by decide +kernel
theorem dX11_writesAll_1 : decode cX11_writesAll 1 = .ok (.aload_n 0, 1) := by decide +kernel
theorem dX11_writesAll_2 : decode cX11_writesAll 2 = .ok (.getfield 13, 3) := by decide +kernel
theorem dX11_writesAll_5 : decode cX11_writesAll 5 = .ok (.iconst 1, 1) := by decide +kernel
theorem dX11_writesAll_6 : decode cX11_writesAll 6 = .ok (.iaload, 1) := by decide +kernel
theorem dX11_writesAll_7 : decode cX11_writesAll 7 = .ok (.iadd, 1) := by decide +kernel
theorem dX11_writesAll_8 : decode cX11_writesAll 8 = .ok (.iload_n 1, 1) := by decide +kernel
theorem dX11_writesAll_9 : decode cX11_writesAll 9 = .ok (.isub, 1) := by decide +kernel
theorem dX11_writesAll_10 : decode cX11_writesAll 10 = .ok (.aload_n 0, 1) := by decide +kernel
theorem dX11_writesAll_11 : decode cX11_writesAll 11 = .ok (.getfield 439, 3) := by decide +kernel
theorem dX11_writesAll_14 : decode cX11_writesAll 14 = .ok (.if_icmp .gt 4, 3) := by decide +kernel
theorem dX11_writesAll_17 : decode cX11_writesAll 17 = .ok (.return_, 1) := by decide +kernel
theorem dX11_writesAll_18 : decode cX11_writesAll 18 = .ok (.iload_n 1, 1) := by decide +kernel
theorem dX11_writesAll_19 : decode cX11_writesAll 19 = .ok (.aload_n 0, 1) := by decide +kernel
theorem dX11_writesAll_20 : decode cX11_writesAll 20 = .ok (.getfield 13, 3) := by decide +kernel
theorem dX11_writesAll_23 : decode cX11_writesAll 23 = .ok (.iconst 1, 1) := by decide +kernel
theorem dX11_writesAll_24 : decode cX11_writesAll 24 = .ok (.iaload, 1) := by decide +kernel
theorem dX11_writesAll_25 : decode cX11_writesAll 25 = .ok (.if_icmp .ne 35, 3) := by decide +kernel
theorem dX11_writesAll_28 : decode cX11_writesAll 28 = .ok (.aload_n 0, 1) := by decide +kernel
theorem dX11_writesAll_29 : decode cX11_writesAll 29 = .ok (.iload_n 2, 1) := by decide +kernel
theorem dX11_writesAll_30 : decode cX11_writesAll 30 = .ok (.putfield 439, 3) := by decide +kernel
theorem dX11_writesAll_33 : decode cX11_writesAll 33 = .ok (.iconst 0, 1) := by decide +kernel
theorem dX11_writesAll_34 : decode cX11_writesAll 34 = .ok (.istore_n 3, 1) := by decide +kernel
theorem dX11_writesAll_35 : decode cX11_writesAll 35 = .ok (.iload_n 3, 1) := by decide +kernel
theorem dX11_writesAll_36 : decode cX11_writesAll 36 = .ok (.bipush 6, 2) := by decide +kernel
theorem dX11_writesAll_38 : decode cX11_writesAll 38 = .ok (.if_icmp .ge 21, 3) := by decide +kernel
theorem dX11_writesAll_41 : decode cX11_writesAll 41 = .ok (.aload_n 0, 1) := by decide +kernel
theorem dX11_writesAll_42 : decode cX11_writesAll 42 = .ok (.getfield 141, 3) := by decide +kernel
theorem dX11_writesAll_45 : decode cX11_writesAll 45 = .ok (.iload_n 3, 1) := by decide +kernel
theorem dX11_writesAll_46 : decode cX11_writesAll 46 = .ok (.aload_n 0, 1) := by decide +kernel
theorem dX11_writesAll_47 : decode cX11_writesAll 47 = .ok (.getfield 138, 3) := by decide +kernel
theorem dX11_writesAll_50 : decode cX11_writesAll 50 = .ok (.iload_n 3, 1) := by decide +kernel
theorem dX11_writesAll_51 : decode cX11_writesAll 51 = .ok (.iaload, 1) := by decide +kernel
theorem dX11_writesAll_52 : decode cX11_writesAll 52 = .ok (.iastore, 1) := by decide +kernel
theorem dX11_writesAll_53 : decode cX11_writesAll 53 = .ok (.iinc 3 1, 3) := by decide +kernel
theorem dX11_writesAll_56 : decode cX11_writesAll 56 = .ok (.goto (-21), 3) := by decide +kernel
theorem dX11_writesAll_59 : decode cX11_writesAll 59 = .ok (.return_, 1) := by decide +kernel
theorem dX11_writesAll_60 : decode cX11_writesAll 60 = .ok (.iconst 0, 1) := by decide +kernel
theorem dX11_writesAll_61 : decode cX11_writesAll 61 = .ok (.istore_n 3, 1) := by decide +kernel
theorem dX11_writesAll_62 : decode cX11_writesAll 62 = .ok (.iload_n 3, 1) := by decide +kernel
theorem dX11_writesAll_63 : decode cX11_writesAll 63 = .ok (.bipush 6, 2) := by decide +kernel
theorem dX11_writesAll_65 : decode cX11_writesAll 65 = .ok (.aload_n 0, 1) := by decide +kernel
theorem dX11_writesAll_66 : decode cX11_writesAll 66 = .ok (.getfield 13, 3) := by decide +kernel
theorem dX11_writesAll_69 : decode cX11_writesAll 69 = .ok (.iconst 0, 1) := by decide +kernel
theorem dX11_writesAll_70 : decode cX11_writesAll 70 = .ok (.iaload, 1) := by decide +kernel
theorem dX11_writesAll_71 : decode cX11_writesAll 71 = .ok (.imul, 1) := by decide +kernel
theorem dX11_writesAll_72 : decode cX11_writesAll 72 = .ok (.if_icmp .ge 85, 3) := by decide +kernel
theorem dX11_writesAll_75 : decode cX11_writesAll 75 = .ok (.iload_n 3, 1) := by decide +kernel
theorem dX11_writesAll_76 : decode cX11_writesAll 76 = .ok (.bipush 6, 2) := by decide +kernel
theorem dX11_writesAll_78 : decode cX11_writesAll 78 = .ok (.idiv, 1) := by decide +kernel
theorem dX11_writesAll_79 : decode cX11_writesAll 79 = .ok (.istore 4, 2) := by decide +kernel
theorem dX11_writesAll_81 : decode cX11_writesAll 81 = .ok (.iload_n 3, 1) := by decide +kernel
theorem dX11_writesAll_82 : decode cX11_writesAll 82 = .ok (.bipush 6, 2) := by decide +kernel
theorem dX11_writesAll_84 : decode cX11_writesAll 84 = .ok (.irem, 1) := by decide +kernel
theorem dX11_writesAll_85 : decode cX11_writesAll 85 = .ok (.aload_n 0, 1) := by decide +kernel
theorem dX11_writesAll_86 : decode cX11_writesAll 86 = .ok (.getfield 23, 3) := by decide +kernel
theorem dX11_writesAll_89 : decode cX11_writesAll 89 = .ok (.iload 4, 2) := by decide +kernel
theorem dX11_writesAll_91 : decode cX11_writesAll 91 = .ok (.iaload, 1) := by decide +kernel
theorem dX11_writesAll_92 : decode cX11_writesAll 92 = .ok (.if_icmp .ge 59, 3) := by decide +kernel
theorem dX11_writesAll_95 : decode cX11_writesAll 95 = .ok (.aload_n 0, 1) := by decide +kernel
theorem dX11_writesAll_96 : decode cX11_writesAll 96 = .ok (.iload_n 1, 1) := by decide +kernel
theorem dX11_writesAll_97 : decode cX11_writesAll 97 = .ok (.iload 4, 2) := by decide +kernel
theorem dX11_writesAll_99 : decode cX11_writesAll 99 = .ok (.iload_n 3, 1) := by decide +kernel
theorem dX11_writesAll_100 : decode cX11_writesAll 100 = .ok (.bipush 6, 2) := by decide +kernel
theorem dX11_writesAll_102 : decode cX11_writesAll 102 = .ok (.irem, 1) := by decide +kernel
theorem dX11_writesAll_103 : decode cX11_writesAll 103 = .ok (.invokevirtual 378, 3) := by decide +kernel
theorem dX11_writesAll_106 : decode cX11_writesAll 106 = .ok (.ifCond .ne 6, 3) := by decide +kernel
theorem dX11_writesAll_109 : decode cX11_writesAll 109 = .ok (.goto 42, 3) := by decide +kernel
theorem dX11_writesAll_112 : decode cX11_writesAll 112 = .ok (.aload_n 0, 1) := by decide +kernel
theorem dX11_writesAll_113 : decode cX11_writesAll 113 = .ok (.getfield 138, 3) := by decide +kernel
theorem dX11_writesAll_116 : decode cX11_writesAll 116 = .ok (.iload_n 1, 1) := by decide +kernel
theorem dX11_writesAll_117 : decode cX11_writesAll 117 = .ok (.iload_n 3, 1) := by decide +kernel
theorem dX11_writesAll_118 : decode cX11_writesAll 118 = .ok (.iastore, 1) := by decide +kernel
theorem dX11_writesAll_119 : decode cX11_writesAll 119 = .ok (.aload_n 0, 1) := by decide +kernel
theorem dX11_writesAll_120 : decode cX11_writesAll 120 = .ok (.iload_n 1, 1) := by decide +kernel
theorem dX11_writesAll_121 : decode cX11_writesAll 121 = .ok (.iload 4, 2) := by decide +kernel
theorem dX11_writesAll_123 : decode cX11_writesAll 123 = .ok (.iload_n 3, 1) := by decide +kernel
theorem dX11_writesAll_124 : decode cX11_writesAll 124 = .ok (.bipush 6, 2) := by decide +kernel
theorem dX11_writesAll_126 : decode cX11_writesAll 126 = .ok (.irem, 1) := by decide +kernel
theorem dX11_writesAll_127 : decode cX11_writesAll 127 = .ok (.invokevirtual 412, 3) := by decide +kernel
theorem dX11_writesAll_130 : decode cX11_writesAll 130 = .ok (.aload_n 0, 1) := by decide +kernel
theorem dX11_writesAll_131 : decode cX11_writesAll 131 = .ok (.iload_n 1, 1) := by decide +kernel
theorem dX11_writesAll_132 : decode cX11_writesAll 132 = .ok (.iconst 1, 1) := by decide +kernel
theorem dX11_writesAll_133 : decode cX11_writesAll 133 = .ok (.iadd, 1) := by decide +kernel
theorem dX11_writesAll_134 : decode cX11_writesAll 134 = .ok (.iload_n 2, 1) := by decide +kernel
theorem dX11_writesAll_135 : decode cX11_writesAll 135 = .ok (.iconst 1, 1) := by decide +kernel
theorem dX11_writesAll_136 : decode cX11_writesAll 136 = .ok (.iadd, 1) := by decide +kernel
theorem dX11_writesAll_137 : decode cX11_writesAll 137 = .ok (.invokevirtual 442, 3) := by decide +kernel
theorem dX11_writesAll_140 : decode cX11_writesAll 140 = .ok (.aload_n 0, 1) := by decide +kernel
theorem dX11_writesAll_141 : decode cX11_writesAll 141 = .ok (.iload_n 1, 1) := by decide +kernel
theorem dX11_writesAll_142 : decode cX11_writesAll 142 = .ok (.iload 4, 2) := by decide +kernel
theorem dX11_writesAll_144 : decode cX11_writesAll 144 = .ok (.iload_n 3, 1) := by decide +kernel
theorem dX11_writesAll_145 : decode cX11_writesAll 145 = .ok (.bipush 6, 2) := by decide +kernel
theorem dX11_writesAll_147 : decode cX11_writesAll 147 = .ok (.irem, 1) := by decide +kernel
theorem dX11_writesAll_148 : decode cX11_writesAll 148 = .ok (.invokevirtual 445, 3) := by decide +kernel
theorem dX11_writesAll_151 : decode cX11_writesAll 151 = .ok (.iinc 3 1, 3) := by decide +kernel
theorem dX11_writesAll_154 : decode cX11_writesAll 154 = .ok (.goto (-92), 3) := by decide +kernel
theorem dX11_writesAll_157 : decode cX11_writesAll 157 = .ok (.aload_n 0, 1) := by decide +kernel
theorem dX11_writesAll_158 : decode cX11_writesAll 158 = .ok (.getfield 138, 3) := by decide +kernel
theorem dX11_writesAll_161 : decode cX11_writesAll 161 = .ok (.iload_n 1, 1) := by decide +kernel
theorem dX11_writesAll_162 : decode cX11_writesAll 162 = .ok (.iconst (-1), 1) := by decide +kernel
theorem dX11_writesAll_163 : decode cX11_writesAll 163 = .ok (.iastore, 1) := by decide +kernel
theorem dX11_writesAll_164 : decode cX11_writesAll 164 = .ok (.aload_n 0, 1) := by decide +kernel
theorem dX11_writesAll_165 : decode cX11_writesAll 165 = .ok (.iload_n 1, 1) := by decide +kernel
theorem dX11_writesAll_166 : decode cX11_writesAll 166 = .ok (.iconst 1, 1) := by decide +kernel
theorem dX11_writesAll_167 : decode cX11_writesAll 167 = .ok (.iadd, 1) := by decide +kernel
theorem dX11_writesAll_168 : decode cX11_writesAll 168 = .ok (.iload_n 2, 1) := by decide +kernel
theorem dX11_writesAll_169 : decode cX11_writesAll 169 = .ok (.invokevirtual 442, 3) := by decide +kernel
theorem dX11_writesAll_172 : decode cX11_writesAll 172 = .ok (.return_, 1) := by decide +kernel
theorem dX11_unwrites_0 : decode cX11_unwrites 0 = .ok (.iload_n 3, 1) := by decide +kernel
theorem dX11_unwrites_1 : decode cX11_unwrites 1 = .ok (.istore 4, 2) := by decide +kernel
theorem dX11_unwrites_3 : decode cX11_unwrites 3 = .ok (.iload 4, 2) := by decide +kernel
theorem dX11_unwrites_5 : decode cX11_unwrites 5 = .ok (.iload_n 3, 1) := by decide +kernel
theorem dX11_unwrites_6 : decode cX11_unwrites 6 = .ok (.aload_n 0, 1) := by decide +kernel
theorem dX11_unwrites_7 : decode cX11_unwrites 7 = .ok (.getfield 38, 3) := by decide +kernel
theorem dX11_unwrites_10 : decode cX11_unwrites 10 = .ok (.iload_n 1, 1) := by decide +kernel
theorem dX11_unwrites_11 : decode cX11_unwrites 11 = .ok (.iaload, 1) := by decide +kernel
theorem dX11_unwrites_12 : decode cX11_unwrites 12 = .ok (.iadd, 1) := by decide +kernel
theorem dX11_unwrites_13 : decode cX11_unwrites 13 = .ok (.if_icmp .ge 46, 3) := by decide +kernel
theorem dX11_unwrites_16 : decode cX11_unwrites 16 = .ok (.aload_n 0, 1) := by decide +kernel
theorem dX11_unwrites_17 : decode cX11_unwrites 17 = .ok (.getfield 120, 3) := by decide +kernel
theorem dX11_unwrites_20 : decode cX11_unwrites 20 = .ok (.bipush 7, 2) := by decide +kernel
theorem dX11_unwrites_22 : decode cX11_unwrites 22 = .ok (.bipush 6, 2) := by decide +kernel
theorem dX11_unwrites_24 : decode cX11_unwrites 24 = .ok (.iload_n 2, 1) := by decide +kernel
theorem dX11_unwrites_25 : decode cX11_unwrites 25 = .ok (.imul, 1) := by decide +kernel
theorem dX11_unwrites_26 : decode cX11_unwrites 26 = .ok (.iadd, 1) := by decide +kernel
theorem dX11_unwrites_27 : decode cX11_unwrites 27 = .ok (.iload 4, 2) := by decide +kernel
theorem dX11_unwrites_29 : decode cX11_unwrites 29 = .ok (.iadd, 1) := by decide +kernel
theorem dX11_unwrites_30 : decode cX11_unwrites 30 = .ok (.dup2, 1) := by decide +kernel
theorem dX11_unwrites_31 : decode cX11_unwrites 31 = .ok (.iaload, 1) := by decide +kernel
theorem dX11_unwrites_32 : decode cX11_unwrites 32 = .ok (.bipush 7, 2) := by decide +kernel
theorem dX11_unwrites_34 : decode cX11_unwrites 34 = .ok (.idiv, 1) := by decide +kernel
theorem dX11_unwrites_35 : decode cX11_unwrites 35 = .ok (.iastore, 1) := by decide +kernel
theorem dX11_unwrites_36 : decode cX11_unwrites 36 = .ok (.aload_n 0, 1) := by decide +kernel
theorem dX11_unwrites_37 : decode cX11_unwrites 37 = .ok (.getfield 120, 3) := by decide +kernel
theorem dX11_unwrites_40 : decode cX11_unwrites 40 = .ok (.iconst 4, 1) := by decide +kernel
theorem dX11_unwrites_41 : decode cX11_unwrites 41 = .ok (.iload_n 2, 1) := by decide +kernel
theorem dX11_unwrites_42 : decode cX11_unwrites 42 = .ok (.iadd, 1) := by decide +kernel
theorem dX11_unwrites_43 : decode cX11_unwrites 43 = .ok (.dup2, 1) := by decide +kernel
theorem dX11_unwrites_44 : decode cX11_unwrites 44 = .ok (.iaload, 1) := by decide +kernel
theorem dX11_unwrites_45 : decode cX11_unwrites 45 = .ok (.iconst 1, 1) := by decide +kernel
theorem dX11_unwrites_46 : decode cX11_unwrites 46 = .ok (.iload 4, 2) := by decide +kernel
theorem dX11_unwrites_48 : decode cX11_unwrites 48 = .ok (.ishl, 1) := by decide +kernel
theorem dX11_unwrites_49 : decode cX11_unwrites 49 = .ok (.iconst (-1), 1) := by decide +kernel
theorem dX11_unwrites_50 : decode cX11_unwrites 50 = .ok (.ixor, 1) := by decide +kernel
theorem dX11_unwrites_51 : decode cX11_unwrites 51 = .ok (.iand, 1) := by decide +kernel
theorem dX11_unwrites_52 : decode cX11_unwrites 52 = .ok (.iastore, 1) := by decide +kernel
theorem dX11_unwrites_53 : decode cX11_unwrites 53 = .ok (.iinc 4 1, 3) := by decide +kernel
theorem dX11_unwrites_56 : decode cX11_unwrites 56 = .ok (.goto (-53), 3) := by decide +kernel
theorem dX11_unwrites_59 : decode cX11_unwrites 59 = .ok (.return_, 1) := by decide +kernel
theorem dX11_lay_0 : decode cX11_lay 0 = .ok (.aload_n 0, 1) := by decide +kernel
theorem dX11_lay_1 : decode cX11_lay 1 = .ok (.iconst 0, 1) := by decide +kernel
theorem dX11_lay_2 : decode cX11_lay 2 = .ok (.putfield 144, 3) := by decide +kernel
theorem dX11_lay_5 : decode cX11_lay 5 = .ok (.iload_n 1, 1) := by decide +kernel
theorem dX11_lay_6 : decode cX11_lay 6 = .ok (.iconst (-1), 1) := by decide +kernel
theorem dX11_lay_7 : decode cX11_lay 7 = .ok (.if_icmp .eq 14, 3) := by decide +kernel
theorem dX11_lay_10 : decode cX11_lay 10 = .ok (.aload_n 0, 1) := by decide +kernel
theorem dX11_lay_11 : decode cX11_lay 11 = .ok (.iload_n 1, 1) := by decide +kernel
theorem dX11_lay_12 : decode cX11_lay 12 = .ok (.invokevirtual 387, 3) := by decide +kernel
theorem dX11_lay_15 : decode cX11_lay 15 = .ok (.ifCond .ne 6, 3) := by decide +kernel
theorem dX11_lay_18 : decode cX11_lay 18 = .ok (.bipush (-2), 2) := by decide +kernel
theorem dX11_lay_20 : decode cX11_lay 20 = .ok (.ireturn, 1) := by decide +kernel
theorem dX11_lay_21 : decode cX11_lay 21 = .ok (.aload_n 0, 1) := by decide +kernel
theorem dX11_lay_22 : decode cX11_lay 22 = .ok (.iconst (-1), 1) := by decide +kernel
theorem dX11_lay_23 : decode cX11_lay 23 = .ok (.putfield 439, 3) := by decide +kernel
theorem dX11_lay_26 : decode cX11_lay 26 = .ok (.aload_n 0, 1) := by decide +kernel
theorem dX11_lay_27 : decode cX11_lay 27 = .ok (.iconst 0, 1) := by decide +kernel
theorem dX11_lay_28 : decode cX11_lay 28 = .ok (.iconst 0, 1) := by decide +kernel
theorem dX11_lay_29 : decode cX11_lay 29 = .ok (.invokevirtual 442, 3) := by decide +kernel
theorem dX11_lay_32 : decode cX11_lay 32 = .ok (.iload_n 1, 1) := by decide +kernel
theorem dX11_lay_33 : decode cX11_lay 33 = .ok (.iconst (-1), 1) := by decide +kernel
theorem dX11_lay_34 : decode cX11_lay 34 = .ok (.if_icmp .ne 10, 3) := by decide +kernel
theorem dX11_lay_37 : decode cX11_lay 37 = .ok (.aload_n 0, 1) := by decide +kernel
theorem dX11_lay_38 : decode cX11_lay 38 = .ok (.getfield 439, 3) := by decide +kernel
theorem dX11_lay_41 : decode cX11_lay 41 = .ok (.goto 9, 3) := by decide +kernel
theorem dX11_lay_44 : decode cX11_lay 44 = .ok (.aload_n 0, 1) := by decide +kernel
theorem dX11_lay_45 : decode cX11_lay 45 = .ok (.getfield 141, 3) := by decide +kernel
theorem dX11_lay_48 : decode cX11_lay 48 = .ok (.iload_n 1, 1) := by decide +kernel
theorem dX11_lay_49 : decode cX11_lay 49 = .ok (.iaload, 1) := by decide +kernel
theorem dX11_lay_50 : decode cX11_lay 50 = .ok (.ireturn, 1) := by decide +kernel
theorem dX11_bears_0 : decode cX11_bears 0 = .ok (.aload_n 0, 1) := by decide +kernel
theorem dX11_bears_1 : decode cX11_bears 1 = .ok (.iconst 0, 1) := by decide +kernel
theorem dX11_bears_2 : decode cX11_bears 2 = .ok (.putfield 144, 3) := by decide +kernel
theorem dX11_bears_5 : decode cX11_bears 5 = .ok (.aload_n 0, 1) := by decide +kernel
theorem dX11_bears_6 : decode cX11_bears 6 = .ok (.iload_n 1, 1) := by decide +kernel
theorem dX11_bears_7 : decode cX11_bears 7 = .ok (.invokevirtual 353, 3) := by decide +kernel
theorem dX11_bears_10 : decode cX11_bears 10 = .ok (.ifCond .eq 11, 3) := by decide +kernel
theorem dX11_bears_13 : decode cX11_bears 13 = .ok (.aload_n 0, 1) := by decide +kernel
theorem dX11_bears_14 : decode cX11_bears 14 = .ok (.iload_n 2, 1) := by decide +kernel
theorem dX11_bears_15 : decode cX11_bears 15 = .ok (.invokevirtual 387, 3) := by decide +kernel
theorem dX11_bears_18 : decode cX11_bears 18 = .ok (.ifCond .ne 5, 3) := by decide +kernel
theorem dX11_bears_21 : decode cX11_bears 21 = .ok (.iconst (-1), 1) := by decide +kernel
theorem dX11_bears_22 : decode cX11_bears 22 = .ok (.ireturn, 1) := by decide +kernel
theorem dX11_bears_23 : decode cX11_bears 23 = .ok (.aload_n 0, 1) := by decide +kernel
theorem dX11_bears_24 : decode cX11_bears 24 = .ok (.getfield 120, 3) := by decide +kernel
theorem dX11_bears_27 : decode cX11_bears 27 = .ok (.iconst 0, 1) := by decide +kernel
theorem dX11_bears_28 : decode cX11_bears 28 = .ok (.aload_n 0, 1) := by decide +kernel
theorem dX11_bears_29 : decode cX11_bears 29 = .ok (.getfield 126, 3) := by decide +kernel
theorem dX11_bears_32 : decode cX11_bears 32 = .ok (.iconst 0, 1) := by decide +kernel
theorem dX11_bears_33 : decode cX11_bears 33 = .ok (.invokestatic 405, 3) := by decide +kernel
theorem dX11_bears_36 : decode cX11_bears 36 = .ok (.iconst 0, 1) := by decide +kernel
theorem dX11_bears_37 : decode cX11_bears 37 = .ok (.istore_n 3, 1) := by decide +kernel
theorem dX11_bears_38 : decode cX11_bears 38 = .ok (.aload_n 0, 1) := by decide +kernel
theorem dX11_bears_39 : decode cX11_bears 39 = .ok (.iload_n 2, 1) := by decide +kernel
theorem dX11_bears_40 : decode cX11_bears 40 = .ok (.iload_n 1, 1) := by decide +kernel
theorem dX11_bears_41 : decode cX11_bears 41 = .ok (.invokevirtual 428, 3) := by decide +kernel
theorem dX11_bears_44 : decode cX11_bears 44 = .ok (.istore 4, 2) := by decide +kernel
theorem dX11_bears_46 : decode cX11_bears 46 = .ok (.iload 4, 2) := by decide +kernel
theorem dX11_bears_48 : decode cX11_bears 48 = .ok (.ifCond .lt 32, 3) := by decide +kernel
theorem dX11_bears_51 : decode cX11_bears 51 = .ok (.aload_n 0, 1) := by decide +kernel
theorem dX11_bears_52 : decode cX11_bears 52 = .ok (.iload_n 2, 1) := by decide +kernel
theorem dX11_bears_53 : decode cX11_bears 53 = .ok (.iload_n 1, 1) := by decide +kernel
theorem dX11_bears_54 : decode cX11_bears 54 = .ok (.iload 4, 2) := by decide +kernel
theorem dX11_bears_56 : decode cX11_bears 56 = .ok (.invokevirtual 412, 3) := by decide +kernel
theorem dX11_bears_59 : decode cX11_bears 59 = .ok (.aload_n 0, 1) := by decide +kernel
theorem dX11_bears_60 : decode cX11_bears 60 = .ok (.iload_n 1, 1) := by decide +kernel
theorem dX11_bears_61 : decode cX11_bears 61 = .ok (.bipush 63, 2) := by decide +kernel
theorem dX11_bears_63 : decode cX11_bears 63 = .ok (.invokevirtual 416, 3) := by decide +kernel
theorem dX11_bears_66 : decode cX11_bears 66 = .ok (.iinc 3 1, 3) := by decide +kernel
theorem dX11_bears_69 : decode cX11_bears 69 = .ok (.aload_n 0, 1) := by decide +kernel
theorem dX11_bears_70 : decode cX11_bears 70 = .ok (.iload_n 2, 1) := by decide +kernel
theorem dX11_bears_71 : decode cX11_bears 71 = .ok (.iload_n 1, 1) := by decide +kernel
theorem dX11_bears_72 : decode cX11_bears 72 = .ok (.invokevirtual 428, 3) := by decide +kernel
theorem dX11_bears_75 : decode cX11_bears 75 = .ok (.istore 4, 2) := by decide +kernel
theorem dX11_bears_77 : decode cX11_bears 77 = .ok (.goto (-31), 3) := by decide +kernel
theorem dX11_bears_80 : decode cX11_bears 80 = .ok (.aload_n 0, 1) := by decide +kernel
theorem dX11_bears_81 : decode cX11_bears 81 = .ok (.getfield 126, 3) := by decide +kernel
theorem dX11_bears_84 : decode cX11_bears 84 = .ok (.iconst 0, 1) := by decide +kernel
theorem dX11_bears_85 : decode cX11_bears 85 = .ok (.aload_n 0, 1) := by decide +kernel
theorem dX11_bears_86 : decode cX11_bears 86 = .ok (.getfield 120, 3) := by decide +kernel
theorem dX11_bears_89 : decode cX11_bears 89 = .ok (.iconst 0, 1) := by decide +kernel
theorem dX11_bears_90 : decode cX11_bears 90 = .ok (.invokestatic 405, 3) := by decide +kernel
theorem dX11_bears_93 : decode cX11_bears 93 = .ok (.iload_n 3, 1) := by decide +kernel
theorem dX11_bears_94 : decode cX11_bears 94 = .ok (.ireturn, 1) := by decide +kernel
theorem dX11_over_0 : decode cX11_over 0 = .ok (.aload_n 0, 1) := by decide +kernel
theorem dX11_over_1 : decode cX11_over 1 = .ok (.iconst 0, 1) := by decide +kernel
theorem dX11_over_2 : decode cX11_over 2 = .ok (.putfield 144, 3) := by decide +kernel
theorem dX11_over_5 : decode cX11_over 5 = .ok (.aload_n 0, 1) := by decide +kernel
theorem dX11_over_6 : decode cX11_over 6 = .ok (.iload_n 1, 1) := by decide +kernel
theorem dX11_over_7 : decode cX11_over 7 = .ok (.invokevirtual 387, 3) := by decide +kernel
theorem dX11_over_10 : decode cX11_over 10 = .ok (.ifCond .ne 5, 3) := by decide +kernel
theorem dX11_over_13 : decode cX11_over 13 = .ok (.iconst (-1), 1) := by decide +kernel
theorem dX11_over_14 : decode cX11_over 14 = .ok (.ireturn, 1) := by decide +kernel
theorem dX11_over_15 : decode cX11_over 15 = .ok (.iconst 0, 1) := by decide +kernel
theorem dX11_over_16 : decode cX11_over 16 = .ok (.istore_n 2, 1) := by decide +kernel
theorem dX11_over_17 : decode cX11_over 17 = .ok (.iconst 0, 1) := by decide +kernel
theorem dX11_over_18 : decode cX11_over 18 = .ok (.istore_n 3, 1) := by decide +kernel
theorem dX11_over_19 : decode cX11_over 19 = .ok (.iload_n 3, 1) := by decide +kernel
theorem dX11_over_20 : decode cX11_over 20 = .ok (.bipush 18, 2) := by decide +kernel
theorem dX11_over_22 : decode cX11_over 22 = .ok (.if_icmp .ge 68, 3) := by decide +kernel
theorem dX11_over_25 : decode cX11_over 25 = .ok (.iconst 0, 1) := by decide +kernel
theorem dX11_over_26 : decode cX11_over 26 = .ok (.istore 4, 2) := by decide +kernel
theorem dX11_over_28 : decode cX11_over 28 = .ok (.aload_n 0, 1) := by decide +kernel
theorem dX11_over_29 : decode cX11_over 29 = .ok (.getfield 120, 3) := by decide +kernel
theorem dX11_over_32 : decode cX11_over 32 = .ok (.bipush 7, 2) := by decide +kernel
theorem dX11_over_34 : decode cX11_over 34 = .ok (.iload_n 3, 1) := by decide +kernel
theorem dX11_over_35 : decode cX11_over 35 = .ok (.iadd, 1) := by decide +kernel
theorem dX11_over_36 : decode cX11_over 36 = .ok (.iaload, 1) := by decide +kernel
theorem dX11_over_37 : decode cX11_over 37 = .ok (.istore 5, 2) := by decide +kernel
theorem dX11_over_39 : decode cX11_over 39 = .ok (.iload 5, 2) := by decide +kernel
theorem dX11_over_41 : decode cX11_over 41 = .ok (.ifCond .le 43, 3) := by decide +kernel
theorem dX11_over_44 : decode cX11_over 44 = .ok (.iload 5, 2) := by decide +kernel
theorem dX11_over_46 : decode cX11_over 46 = .ok (.bipush 7, 2) := by decide +kernel
theorem dX11_over_48 : decode cX11_over 48 = .ok (.irem, 1) := by decide +kernel
theorem dX11_over_49 : decode cX11_over 49 = .ok (.iconst 1, 1) := by decide +kernel
theorem dX11_over_50 : decode cX11_over 50 = .ok (.isub, 1) := by decide +kernel
theorem dX11_over_51 : decode cX11_over 51 = .ok (.iload_n 1, 1) := by decide +kernel
theorem dX11_over_52 : decode cX11_over 52 = .ok (.if_icmp .ne 8, 3) := by decide +kernel
theorem dX11_over_55 : decode cX11_over 55 = .ok (.iload_n 2, 1) := by decide +kernel
theorem dX11_over_56 : decode cX11_over 56 = .ok (.iload 4, 2) := by decide +kernel
theorem dX11_over_58 : decode cX11_over 58 = .ok (.ior, 1) := by decide +kernel
theorem dX11_over_59 : decode cX11_over 59 = .ok (.istore_n 2, 1) := by decide +kernel
theorem dX11_over_60 : decode cX11_over 60 = .ok (.iload 4, 2) := by decide +kernel
theorem dX11_over_62 : decode cX11_over 62 = .ok (.iconst 1, 1) := by decide +kernel
theorem dX11_over_63 : decode cX11_over 63 = .ok (.iload 5, 2) := by decide +kernel
theorem dX11_over_65 : decode cX11_over 65 = .ok (.bipush 7, 2) := by decide +kernel
theorem dX11_over_67 : decode cX11_over 67 = .ok (.irem, 1) := by decide +kernel
theorem dX11_over_68 : decode cX11_over 68 = .ok (.iconst 1, 1) := by decide +kernel
theorem dX11_over_69 : decode cX11_over 69 = .ok (.isub, 1) := by decide +kernel
theorem dX11_over_70 : decode cX11_over 70 = .ok (.ishl, 1) := by decide +kernel
theorem dX11_over_71 : decode cX11_over 71 = .ok (.ior, 1) := by decide +kernel
theorem dX11_over_72 : decode cX11_over 72 = .ok (.istore 4, 2) := by decide +kernel
theorem dX11_over_74 : decode cX11_over 74 = .ok (.iload 5, 2) := by decide +kernel
theorem dX11_over_76 : decode cX11_over 76 = .ok (.bipush 7, 2) := by decide +kernel
theorem dX11_over_78 : decode cX11_over 78 = .ok (.idiv, 1) := by decide +kernel
theorem dX11_over_79 : decode cX11_over 79 = .ok (.istore 5, 2) := by decide +kernel
theorem dX11_over_81 : decode cX11_over 81 = .ok (.goto (-42), 3) := by decide +kernel
theorem dX11_over_84 : decode cX11_over 84 = .ok (.iinc 3 1, 3) := by decide +kernel
theorem dX11_over_87 : decode cX11_over 87 = .ok (.goto (-68), 3) := by decide +kernel
theorem dX11_over_90 : decode cX11_over 90 = .ok (.iload_n 2, 1) := by decide +kernel
theorem dX11_over_91 : decode cX11_over 91 = .ok (.ireturn, 1) := by decide +kernel
theorem dX11_deepest_0 : decode cX11_deepest 0 = .ok (.aload_n 0, 1) := by decide +kernel
theorem dX11_deepest_1 : decode cX11_deepest 1 = .ok (.iconst 0, 1) := by decide +kernel
theorem dX11_deepest_2 : decode cX11_deepest 2 = .ok (.putfield 144, 3) := by decide +kernel
theorem dX11_deepest_5 : decode cX11_deepest 5 = .ok (.aload_n 0, 1) := by decide +kernel
theorem dX11_deepest_6 : decode cX11_deepest 6 = .ok (.iload_n 1, 1) := by decide +kernel
theorem dX11_deepest_7 : decode cX11_deepest 7 = .ok (.invokevirtual 353, 3) := by decide +kernel
theorem dX11_deepest_10 : decode cX11_deepest 10 = .ok (.ifCond .ne 5, 3) := by decide +kernel
theorem dX11_deepest_13 : decode cX11_deepest 13 = .ok (.iconst (-1), 1) := by decide +kernel
theorem dX11_deepest_14 : decode cX11_deepest 14 = .ok (.ireturn, 1) := by decide +kernel
theorem dX11_deepest_15 : decode cX11_deepest 15 = .ok (.iconst 0, 1) := by decide +kernel
theorem dX11_deepest_16 : decode cX11_deepest 16 = .ok (.istore_n 2, 1) := by decide +kernel
theorem dX11_deepest_17 : decode cX11_deepest 17 = .ok (.iconst 1, 1) := by decide +kernel
theorem dX11_deepest_18 : decode cX11_deepest 18 = .ok (.istore_n 3, 1) := by decide +kernel
theorem dX11_deepest_19 : decode cX11_deepest 19 = .ok (.iload_n 3, 1) := by decide +kernel
theorem dX11_deepest_20 : decode cX11_deepest 20 = .ok (.aload_n 0, 1) := by decide +kernel
theorem dX11_deepest_21 : decode cX11_deepest 21 = .ok (.getfield 23, 3) := by decide +kernel
theorem dX11_deepest_24 : decode cX11_deepest 24 = .ok (.iload_n 1, 1) := by decide +kernel
theorem dX11_deepest_25 : decode cX11_deepest 25 = .ok (.iaload, 1) := by decide +kernel
theorem dX11_deepest_26 : decode cX11_deepest 26 = .ok (.if_icmp .ge 48, 3) := by decide +kernel
theorem dX11_deepest_29 : decode cX11_deepest 29 = .ok (.aload_n 0, 1) := by decide +kernel
theorem dX11_deepest_30 : decode cX11_deepest 30 = .ok (.getfield 120, 3) := by decide +kernel
theorem dX11_deepest_33 : decode cX11_deepest 33 = .ok (.bipush 7, 2) := by decide +kernel
theorem dX11_deepest_35 : decode cX11_deepest 35 = .ok (.bipush 6, 2) := by decide +kernel
theorem dX11_deepest_37 : decode cX11_deepest 37 = .ok (.iload_n 1, 1) := by decide +kernel
theorem dX11_deepest_38 : decode cX11_deepest 38 = .ok (.imul, 1) := by decide +kernel
theorem dX11_deepest_39 : decode cX11_deepest 39 = .ok (.iadd, 1) := by decide +kernel
theorem dX11_deepest_40 : decode cX11_deepest 40 = .ok (.iload_n 3, 1) := by decide +kernel
theorem dX11_deepest_41 : decode cX11_deepest 41 = .ok (.iadd, 1) := by decide +kernel
theorem dX11_deepest_42 : decode cX11_deepest 42 = .ok (.iaload, 1) := by decide +kernel
theorem dX11_deepest_43 : decode cX11_deepest 43 = .ok (.invokestatic 399, 3) := by decide +kernel
theorem dX11_deepest_46 : decode cX11_deepest 46 = .ok (.aload_n 0, 1) := by decide +kernel
theorem dX11_deepest_47 : decode cX11_deepest 47 = .ok (.getfield 120, 3) := by decide +kernel
theorem dX11_deepest_50 : decode cX11_deepest 50 = .ok (.bipush 7, 2) := by decide +kernel
theorem dX11_deepest_52 : decode cX11_deepest 52 = .ok (.bipush 6, 2) := by decide +kernel
theorem dX11_deepest_54 : decode cX11_deepest 54 = .ok (.iload_n 1, 1) := by decide +kernel
theorem dX11_deepest_55 : decode cX11_deepest 55 = .ok (.imul, 1) := by decide +kernel
theorem dX11_deepest_56 : decode cX11_deepest 56 = .ok (.iadd, 1) := by decide +kernel
theorem dX11_deepest_57 : decode cX11_deepest 57 = .ok (.iload_n 2, 1) := by decide +kernel
theorem dX11_deepest_58 : decode cX11_deepest 58 = .ok (.iadd, 1) := by decide +kernel
theorem dX11_deepest_59 : decode cX11_deepest 59 = .ok (.iaload, 1) := by decide +kernel
theorem dX11_deepest_60 : decode cX11_deepest 60 = .ok (.invokestatic 399, 3) := by decide +kernel
theorem dX11_deepest_63 : decode cX11_deepest 63 = .ok (.if_icmp .le 5, 3) := by decide +kernel
theorem dX11_deepest_66 : decode cX11_deepest 66 = .ok (.iload_n 3, 1) := by decide +kernel
theorem dX11_deepest_67 : decode cX11_deepest 67 = .ok (.istore_n 2, 1) := by decide +kernel
theorem dX11_deepest_68 : decode cX11_deepest 68 = .ok (.iinc 3 1, 3) := by decide +kernel
theorem dX11_deepest_71 : decode cX11_deepest 71 = .ok (.goto (-52), 3) := by decide +kernel
theorem dX11_deepest_74 : decode cX11_deepest 74 = .ok (.iload_n 2, 1) := by decide +kernel
theorem dX11_deepest_75 : decode cX11_deepest 75 = .ok (.ireturn, 1) := by decide +kernel
theorem dX11_bare_0 : decode cX11_bare 0 = .ok (.aload_n 0, 1) := by decide +kernel
theorem dX11_bare_1 : decode cX11_bare 1 = .ok (.iconst 0, 1) := by decide +kernel
theorem dX11_bare_2 : decode cX11_bare 2 = .ok (.putfield 144, 3) := by decide +kernel
theorem dX11_bare_5 : decode cX11_bare 5 = .ok (.aload_n 0, 1) := by decide +kernel
theorem dX11_bare_6 : decode cX11_bare 6 = .ok (.iload_n 1, 1) := by decide +kernel
theorem dX11_bare_7 : decode cX11_bare 7 = .ok (.invokevirtual 353, 3) := by decide +kernel
theorem dX11_bare_10 : decode cX11_bare 10 = .ok (.ifCond .ne 5, 3) := by decide +kernel
theorem dX11_bare_13 : decode cX11_bare 13 = .ok (.iconst (-1), 1) := by decide +kernel
theorem dX11_bare_14 : decode cX11_bare 14 = .ok (.ireturn, 1) := by decide +kernel
theorem dX11_bare_15 : decode cX11_bare 15 = .ok (.iconst 0, 1) := by decide +kernel
theorem dX11_bare_16 : decode cX11_bare 16 = .ok (.istore_n 2, 1) := by decide +kernel
theorem dX11_bare_17 : decode cX11_bare 17 = .ok (.iconst 0, 1) := by decide +kernel
theorem dX11_bare_18 : decode cX11_bare 18 = .ok (.istore_n 3, 1) := by decide +kernel
theorem dX11_bare_19 : decode cX11_bare 19 = .ok (.iload_n 3, 1) := by decide +kernel
theorem dX11_bare_20 : decode cX11_bare 20 = .ok (.aload_n 0, 1) := by decide +kernel
theorem dX11_bare_21 : decode cX11_bare 21 = .ok (.getfield 23, 3) := by decide +kernel
theorem dX11_bare_24 : decode cX11_bare 24 = .ok (.iload_n 1, 1) := by decide +kernel
theorem dX11_bare_25 : decode cX11_bare 25 = .ok (.iaload, 1) := by decide +kernel
theorem dX11_bare_26 : decode cX11_bare 26 = .ok (.if_icmp .ge 36, 3) := by decide +kernel
theorem dX11_bare_29 : decode cX11_bare 29 = .ok (.iload_n 2, 1) := by decide +kernel
theorem dX11_bare_30 : decode cX11_bare 30 = .ok (.aload_n 0, 1) := by decide +kernel
theorem dX11_bare_31 : decode cX11_bare 31 = .ok (.getfield 120, 3) := by decide +kernel
theorem dX11_bare_34 : decode cX11_bare 34 = .ok (.bipush 7, 2) := by decide +kernel
theorem dX11_bare_36 : decode cX11_bare 36 = .ok (.bipush 6, 2) := by decide +kernel
theorem dX11_bare_38 : decode cX11_bare 38 = .ok (.iload_n 1, 1) := by decide +kernel
theorem dX11_bare_39 : decode cX11_bare 39 = .ok (.imul, 1) := by decide +kernel
theorem dX11_bare_40 : decode cX11_bare 40 = .ok (.iadd, 1) := by decide +kernel
theorem dX11_bare_41 : decode cX11_bare 41 = .ok (.iload_n 3, 1) := by decide +kernel
theorem dX11_bare_42 : decode cX11_bare 42 = .ok (.iadd, 1) := by decide +kernel
theorem dX11_bare_43 : decode cX11_bare 43 = .ok (.iaload, 1) := by decide +kernel
theorem dX11_bare_44 : decode cX11_bare 44 = .ok (.ifCond .ne 9, 3) := by decide +kernel
theorem dX11_bare_47 : decode cX11_bare 47 = .ok (.iconst 1, 1) := by decide +kernel
theorem dX11_bare_48 : decode cX11_bare 48 = .ok (.iload_n 3, 1) := by decide +kernel
theorem dX11_bare_49 : decode cX11_bare 49 = .ok (.ishl, 1) := by decide +kernel
theorem dX11_bare_50 : decode cX11_bare 50 = .ok (.goto 4, 3) := by decide +kernel
theorem dX11_bare_53 : decode cX11_bare 53 = .ok (.iconst 0, 1) := by decide +kernel
theorem dX11_bare_54 : decode cX11_bare 54 = .ok (.ior, 1) := by decide +kernel
theorem dX11_bare_55 : decode cX11_bare 55 = .ok (.istore_n 2, 1) := by decide +kernel
theorem dX11_bare_56 : decode cX11_bare 56 = .ok (.iinc 3 1, 3) := by decide +kernel
theorem dX11_bare_59 : decode cX11_bare 59 = .ok (.goto (-40), 3) := by decide +kernel
theorem dX11_bare_62 : decode cX11_bare 62 = .ok (.iload_n 2, 1) := by decide +kernel
theorem dX11_bare_63 : decode cX11_bare 63 = .ok (.aload_n 0, 1) := by decide +kernel
theorem dX11_bare_64 : decode cX11_bare 64 = .ok (.getfield 29, 3) := by decide +kernel
theorem dX11_bare_67 : decode cX11_bare 67 = .ok (.iload_n 1, 1) := by decide +kernel
theorem dX11_bare_68 : decode cX11_bare 68 = .ok (.iaload, 1) := by decide +kernel
theorem dX11_bare_69 : decode cX11_bare 69 = .ok (.iconst (-1), 1) := by decide +kernel
theorem dX11_bare_70 : decode cX11_bare 70 = .ok (.ixor, 1) := by decide +kernel
theorem dX11_bare_71 : decode cX11_bare 71 = .ok (.iand, 1) := by decide +kernel
theorem dX11_bare_72 : decode cX11_bare 72 = .ok (.ireturn, 1) := by decide +kernel
theorem dX11_same_0 : decode cX11_same 0 = .ok (.aload_n 0, 1) := by decide +kernel
theorem dX11_same_1 : decode cX11_same 1 = .ok (.iconst 0, 1) := by decide +kernel
theorem dX11_same_2 : decode cX11_same 2 = .ok (.putfield 144, 3) := by decide +kernel
theorem dX11_same_5 : decode cX11_same 5 = .ok (.iconst 0, 1) := by decide +kernel
theorem dX11_same_6 : decode cX11_same 6 = .ok (.istore_n 1, 1) := by decide +kernel
theorem dX11_same_7 : decode cX11_same 7 = .ok (.iconst 0, 1) := by decide +kernel
theorem dX11_same_8 : decode cX11_same 8 = .ok (.istore_n 2, 1) := by decide +kernel
theorem dX11_same_9 : decode cX11_same 9 = .ok (.iload_n 2, 1) := by decide +kernel
theorem dX11_same_10 : decode cX11_same 10 = .ok (.bipush 18, 2) := by decide +kernel
theorem dX11_same_12 : decode cX11_same 12 = .ok (.if_icmp .ge 63, 3) := by decide +kernel
theorem dX11_same_15 : decode cX11_same 15 = .ok (.iconst 0, 1) := by decide +kernel
theorem dX11_same_16 : decode cX11_same 16 = .ok (.istore_n 3, 1) := by decide +kernel
theorem dX11_same_17 : decode cX11_same 17 = .ok (.iload_n 3, 1) := by decide +kernel
theorem dX11_same_18 : decode cX11_same 18 = .ok (.iload_n 2, 1) := by decide +kernel
theorem dX11_same_19 : decode cX11_same 19 = .ok (.if_icmp .ge 50, 3) := by decide +kernel
theorem dX11_same_22 : decode cX11_same 22 = .ok (.iload_n 1, 1) := by decide +kernel
theorem dX11_same_23 : decode cX11_same 23 = .ok (.aload_n 0, 1) := by decide +kernel
theorem dX11_same_24 : decode cX11_same 24 = .ok (.getfield 120, 3) := by decide +kernel
theorem dX11_same_27 : decode cX11_same 27 = .ok (.bipush 7, 2) := by decide +kernel
theorem dX11_same_29 : decode cX11_same 29 = .ok (.iload_n 2, 1) := by decide +kernel
theorem dX11_same_30 : decode cX11_same 30 = .ok (.iadd, 1) := by decide +kernel
theorem dX11_same_31 : decode cX11_same 31 = .ok (.iaload, 1) := by decide +kernel
theorem dX11_same_32 : decode cX11_same 32 = .ok (.ifCond .le 28, 3) := by decide +kernel
theorem dX11_same_35 : decode cX11_same 35 = .ok (.aload_n 0, 1) := by decide +kernel
theorem dX11_same_36 : decode cX11_same 36 = .ok (.getfield 120, 3) := by decide +kernel
theorem dX11_same_39 : decode cX11_same 39 = .ok (.bipush 7, 2) := by decide +kernel
theorem dX11_same_41 : decode cX11_same 41 = .ok (.iload_n 2, 1) := by decide +kernel
theorem dX11_same_42 : decode cX11_same 42 = .ok (.iadd, 1) := by decide +kernel
theorem dX11_same_43 : decode cX11_same 43 = .ok (.iaload, 1) := by decide +kernel
theorem dX11_same_44 : decode cX11_same 44 = .ok (.aload_n 0, 1) := by decide +kernel
theorem dX11_same_45 : decode cX11_same 45 = .ok (.getfield 120, 3) := by decide +kernel
theorem dX11_same_48 : decode cX11_same 48 = .ok (.bipush 7, 2) := by decide +kernel
theorem dX11_same_50 : decode cX11_same 50 = .ok (.iload_n 3, 1) := by decide +kernel
theorem dX11_same_51 : decode cX11_same 51 = .ok (.iadd, 1) := by decide +kernel
theorem dX11_same_52 : decode cX11_same 52 = .ok (.iaload, 1) := by decide +kernel
theorem dX11_same_53 : decode cX11_same 53 = .ok (.if_icmp .ne 7, 3) := by decide +kernel
theorem dX11_same_56 : decode cX11_same 56 = .ok (.iconst 1, 1) := by decide +kernel
theorem dX11_same_57 : decode cX11_same 57 = .ok (.goto 4, 3) := by decide +kernel
theorem dX11_same_60 : decode cX11_same 60 = .ok (.iconst 0, 1) := by decide +kernel
theorem dX11_same_61 : decode cX11_same 61 = .ok (.iadd, 1) := by decide +kernel
theorem dX11_same_62 : decode cX11_same 62 = .ok (.istore_n 1, 1) := by decide +kernel
theorem dX11_same_63 : decode cX11_same 63 = .ok (.iinc 3 1, 3) := by decide +kernel
theorem dX11_same_66 : decode cX11_same 66 = .ok (.goto (-49), 3) := by decide +kernel
theorem dX11_same_69 : decode cX11_same 69 = .ok (.iinc 2 1, 3) := by decide +kernel
theorem dX11_same_72 : decode cX11_same 72 = .ok (.goto (-63), 3) := by decide +kernel
theorem dX11_same_75 : decode cX11_same 75 = .ok (.iload_n 1, 1) := by decide +kernel
theorem dX11_same_76 : decode cX11_same 76 = .ok (.ireturn, 1) := by decide +kernel
theorem dX11_giveup_0 : decode cX11_giveup 0 = .ok (.aload_n 0, 1) := by decide +kernel
theorem dX11_giveup_1 : decode cX11_giveup 1 = .ok (.iconst 0, 1) := by decide +kernel
theorem dX11_giveup_2 : decode cX11_giveup 2 = .ok (.putfield 144, 3) := by decide +kernel
theorem dX11_giveup_5 : decode cX11_giveup 5 = .ok (.iconst (-1), 1) := by decide +kernel
theorem dX11_giveup_6 : decode cX11_giveup 6 = .ok (.istore_n 1, 1) := by decide +kernel
theorem dX11_giveup_7 : decode cX11_giveup 7 = .ok (.bipush 7, 2) := by decide +kernel
theorem dX11_giveup_9 : decode cX11_giveup 9 = .ok (.istore_n 2, 1) := by decide +kernel
theorem dX11_giveup_10 : decode cX11_giveup 10 = .ok (.aload_n 0, 1) := by decide +kernel
theorem dX11_giveup_11 : decode cX11_giveup 11 = .ok (.invokevirtual 390, 3) := by decide +kernel
theorem dX11_giveup_14 : decode cX11_giveup 14 = .ok (.istore_n 3, 1) := by decide +kernel
theorem dX11_giveup_15 : decode cX11_giveup 15 = .ok (.iconst 0, 1) := by decide +kernel
theorem dX11_giveup_16 : decode cX11_giveup 16 = .ok (.istore 4, 2) := by decide +kernel
theorem dX11_giveup_18 : decode cX11_giveup 18 = .ok (.iload 4, 2) := by decide +kernel
theorem dX11_giveup_20 : decode cX11_giveup 20 = .ok (.aload_n 0, 1) := by decide +kernel
theorem dX11_giveup_21 : decode cX11_giveup 21 = .ok (.getfield 13, 3) := by decide +kernel
theorem dX11_giveup_24 : decode cX11_giveup 24 = .ok (.iconst 0, 1) := by decide +kernel
theorem dX11_giveup_25 : decode cX11_giveup 25 = .ok (.iaload, 1) := by decide +kernel
theorem dX11_giveup_26 : decode cX11_giveup 26 = .ok (.if_icmp .ge 85, 3) := by decide +kernel
theorem dX11_giveup_29 : decode cX11_giveup 29 = .ok (.aload_n 0, 1) := by decide +kernel
theorem dX11_giveup_30 : decode cX11_giveup 30 = .ok (.iload 4, 2) := by decide +kernel
theorem dX11_giveup_32 : decode cX11_giveup 32 = .ok (.bipush 63, 2) := by decide +kernel
theorem dX11_giveup_34 : decode cX11_giveup 34 = .ok (.invokevirtual 374, 3) := by decide +kernel
theorem dX11_giveup_37 : decode cX11_giveup 37 = .ok (.ifCond .ne 6, 3) := by decide +kernel
