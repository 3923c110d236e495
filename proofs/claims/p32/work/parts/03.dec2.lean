set_option maxRecDepth 20000 in
theorem dL_rank_70 : decode cL_rank 70 = .ok (.imul, 1) := by decide +kernel
set_option maxRecDepth 20000 in
theorem dL_rank_71 : decode cL_rank 71 = .ok (.iload 8, 2) := by decide +kernel
set_option maxRecDepth 20000 in
theorem dL_rank_73 : decode cL_rank 73 = .ok (.iadd, 1) := by decide +kernel
set_option maxRecDepth 20000 in
theorem dL_rank_74 : decode cL_rank 74 = .ok (.laload, 1) := by decide +kernel
set_option maxRecDepth 20000 in
theorem dL_rank_75 : decode cL_rank 75 = .ok (.lstore 9, 2) := by decide +kernel
set_option maxRecDepth 20000 in
theorem dL_rank_77 : decode cL_rank 77 = .ok (.aload_n 0, 1) := by decide +kernel
set_option maxRecDepth 20000 in
theorem dL_rank_78 : decode cL_rank 78 = .ok (.bipush 7, 2) := by decide +kernel
set_option maxRecDepth 20000 in
theorem dL_rank_80 : decode cL_rank 80 = .ok (.iload 7, 2) := by decide +kernel
set_option maxRecDepth 20000 in
theorem dL_rank_82 : decode cL_rank 82 = .ok (.imul, 1) := by decide +kernel
set_option maxRecDepth 20000 in
theorem dL_rank_83 : decode cL_rank 83 = .ok (.iload 8, 2) := by decide +kernel
set_option maxRecDepth 20000 in
theorem dL_rank_85 : decode cL_rank 85 = .ok (.iadd, 1) := by decide +kernel
set_option maxRecDepth 20000 in
theorem dL_rank_86 : decode cL_rank 86 = .ok (.aload_n 0, 1) := by decide +kernel
set_option maxRecDepth 20000 in
theorem dL_rank_87 : decode cL_rank 87 = .ok (.bipush 7, 2) := by decide +kernel
set_option maxRecDepth 20000 in
theorem dL_rank_89 : decode cL_rank 89 = .ok (.iload_n 3, 1) := by decide +kernel
set_option maxRecDepth 20000 in
theorem dL_rank_90 : decode cL_rank 90 = .ok (.imul, 1) := by decide +kernel
set_option maxRecDepth 20000 in
theorem dL_rank_91 : decode cL_rank 91 = .ok (.iload 8, 2) := by decide +kernel
set_option maxRecDepth 20000 in
theorem dL_rank_93 : decode cL_rank 93 = .ok (.iadd, 1) := by decide +kernel
set_option maxRecDepth 20000 in
theorem dL_rank_94 : decode cL_rank 94 = .ok (.laload, 1) := by decide +kernel
set_option maxRecDepth 20000 in
theorem dL_rank_95 : decode cL_rank 95 = .ok (.lastore, 1) := by decide +kernel
set_option maxRecDepth 20000 in
theorem dL_rank_96 : decode cL_rank 96 = .ok (.aload_n 0, 1) := by decide +kernel
set_option maxRecDepth 20000 in
theorem dL_rank_97 : decode cL_rank 97 = .ok (.bipush 7, 2) := by decide +kernel
set_option maxRecDepth 20000 in
theorem dL_rank_99 : decode cL_rank 99 = .ok (.iload_n 3, 1) := by decide +kernel
set_option maxRecDepth 20000 in
theorem dL_rank_100 : decode cL_rank 100 = .ok (.imul, 1) := by decide +kernel
set_option maxRecDepth 20000 in
theorem dL_rank_101 : decode cL_rank 101 = .ok (.iload 8, 2) := by decide +kernel
set_option maxRecDepth 20000 in
theorem dL_rank_103 : decode cL_rank 103 = .ok (.iadd, 1) := by decide +kernel
set_option maxRecDepth 20000 in
theorem dL_rank_104 : decode cL_rank 104 = .ok (.lload 9, 2) := by decide +kernel
set_option maxRecDepth 20000 in
theorem dL_rank_106 : decode cL_rank 106 = .ok (.lastore, 1) := by decide +kernel
set_option maxRecDepth 20000 in
theorem dL_rank_107 : decode cL_rank 107 = .ok (.iinc 8 1, 3) := by decide +kernel
set_option maxRecDepth 20000 in
theorem dL_rank_110 : decode cL_rank 110 = .ok (.goto (-52), 3) := by decide +kernel
set_option maxRecDepth 20000 in
theorem dL_rank_113 : decode cL_rank 113 = .ok (.aload_n 0, 1) := by decide +kernel
set_option maxRecDepth 20000 in
theorem dL_rank_114 : decode cL_rank 114 = .ok (.bipush 7, 2) := by decide +kernel
set_option maxRecDepth 20000 in
theorem dL_rank_116 : decode cL_rank 116 = .ok (.iload_n 3, 1) := by decide +kernel
set_option maxRecDepth 20000 in
theorem dL_rank_117 : decode cL_rank 117 = .ok (.imul, 1) := by decide +kernel
set_option maxRecDepth 20000 in
theorem dL_rank_118 : decode cL_rank 118 = .ok (.iload 6, 2) := by decide +kernel
set_option maxRecDepth 20000 in
theorem dL_rank_120 : decode cL_rank 120 = .ok (.iadd, 1) := by decide +kernel
set_option maxRecDepth 20000 in
theorem dL_rank_121 : decode cL_rank 121 = .ok (.laload, 1) := by decide +kernel
set_option maxRecDepth 20000 in
theorem dL_rank_122 : decode cL_rank 122 = .ok (.lstore 8, 2) := by decide +kernel
set_option maxRecDepth 20000 in
theorem dL_rank_124 : decode cL_rank 124 = .ok (.iload_n 3, 1) := by decide +kernel
set_option maxRecDepth 20000 in
theorem dL_rank_125 : decode cL_rank 125 = .ok (.iconst 1, 1) := by decide +kernel
set_option maxRecDepth 20000 in
theorem dL_rank_126 : decode cL_rank 126 = .ok (.iadd, 1) := by decide +kernel
set_option maxRecDepth 20000 in
theorem dL_rank_127 : decode cL_rank 127 = .ok (.istore 10, 2) := by decide +kernel
set_option maxRecDepth 20000 in
theorem dL_rank_129 : decode cL_rank 129 = .ok (.iload 10, 2) := by decide +kernel
set_option maxRecDepth 20000 in
theorem dL_rank_131 : decode cL_rank 131 = .ok (.iload_n 1, 1) := by decide +kernel
set_option maxRecDepth 20000 in
theorem dL_rank_132 : decode cL_rank 132 = .ok (.if_icmp .ge 75, 3) := by decide +kernel
set_option maxRecDepth 20000 in
theorem dL_rank_135 : decode cL_rank 135 = .ok (.aload_n 0, 1) := by decide +kernel
set_option maxRecDepth 20000 in
theorem dL_rank_136 : decode cL_rank 136 = .ok (.bipush 7, 2) := by decide +kernel
set_option maxRecDepth 20000 in
theorem dL_rank_138 : decode cL_rank 138 = .ok (.iload 10, 2) := by decide +kernel
set_option maxRecDepth 20000 in
theorem dL_rank_140 : decode cL_rank 140 = .ok (.imul, 1) := by decide +kernel
set_option maxRecDepth 20000 in
theorem dL_rank_141 : decode cL_rank 141 = .ok (.iload 6, 2) := by decide +kernel
set_option maxRecDepth 20000 in
theorem dL_rank_143 : decode cL_rank 143 = .ok (.iadd, 1) := by decide +kernel
set_option maxRecDepth 20000 in
theorem dL_rank_144 : decode cL_rank 144 = .ok (.laload, 1) := by decide +kernel
set_option maxRecDepth 20000 in
theorem dL_rank_145 : decode cL_rank 145 = .ok (.lstore 11, 2) := by decide +kernel
set_option maxRecDepth 20000 in
theorem dL_rank_147 : decode cL_rank 147 = .ok (.iconst 0, 1) := by decide +kernel
set_option maxRecDepth 20000 in
theorem dL_rank_148 : decode cL_rank 148 = .ok (.istore 13, 2) := by decide +kernel
set_option maxRecDepth 20000 in
theorem dL_rank_150 : decode cL_rank 150 = .ok (.iload 13, 2) := by decide +kernel
set_option maxRecDepth 20000 in
theorem dL_rank_152 : decode cL_rank 152 = .ok (.iload_n 2, 1) := by decide +kernel
set_option maxRecDepth 20000 in
theorem dL_rank_153 : decode cL_rank 153 = .ok (.if_icmp .ge 48, 3) := by decide +kernel
set_option maxRecDepth 20000 in
theorem dL_rank_156 : decode cL_rank 156 = .ok (.aload_n 0, 1) := by decide +kernel
set_option maxRecDepth 20000 in
theorem dL_rank_157 : decode cL_rank 157 = .ok (.bipush 7, 2) := by decide +kernel
set_option maxRecDepth 20000 in
theorem dL_rank_159 : decode cL_rank 159 = .ok (.iload 10, 2) := by decide +kernel
set_option maxRecDepth 20000 in
theorem dL_rank_161 : decode cL_rank 161 = .ok (.imul, 1) := by decide +kernel
set_option maxRecDepth 20000 in
theorem dL_rank_162 : decode cL_rank 162 = .ok (.iload 13, 2) := by decide +kernel
set_option maxRecDepth 20000 in
theorem dL_rank_164 : decode cL_rank 164 = .ok (.iadd, 1) := by decide +kernel
set_option maxRecDepth 20000 in
theorem dL_rank_165 : decode cL_rank 165 = .ok (.aload_n 0, 1) := by decide +kernel
set_option maxRecDepth 20000 in
theorem dL_rank_166 : decode cL_rank 166 = .ok (.bipush 7, 2) := by decide +kernel
set_option maxRecDepth 20000 in
theorem dL_rank_168 : decode cL_rank 168 = .ok (.iload 10, 2) := by decide +kernel
set_option maxRecDepth 20000 in
theorem dL_rank_170 : decode cL_rank 170 = .ok (.imul, 1) := by decide +kernel
set_option maxRecDepth 20000 in
theorem dL_rank_171 : decode cL_rank 171 = .ok (.iload 13, 2) := by decide +kernel
set_option maxRecDepth 20000 in
theorem dL_rank_173 : decode cL_rank 173 = .ok (.iadd, 1) := by decide +kernel
set_option maxRecDepth 20000 in
theorem dL_rank_174 : decode cL_rank 174 = .ok (.laload, 1) := by decide +kernel
set_option maxRecDepth 20000 in
theorem dL_rank_175 : decode cL_rank 175 = .ok (.lload 8, 2) := by decide +kernel
set_option maxRecDepth 20000 in
theorem dL_rank_177 : decode cL_rank 177 = .ok (.lmul, 1) := by decide +kernel
set_option maxRecDepth 20000 in
theorem dL_rank_178 : decode cL_rank 178 = .ok (.aload_n 0, 1) := by decide +kernel
set_option maxRecDepth 20000 in
theorem dL_rank_179 : decode cL_rank 179 = .ok (.bipush 7, 2) := by decide +kernel
set_option maxRecDepth 20000 in
theorem dL_rank_181 : decode cL_rank 181 = .ok (.iload_n 3, 1) := by decide +kernel
set_option maxRecDepth 20000 in
theorem dL_rank_182 : decode cL_rank 182 = .ok (.imul, 1) := by decide +kernel
set_option maxRecDepth 20000 in
theorem dL_rank_183 : decode cL_rank 183 = .ok (.iload 13, 2) := by decide +kernel
set_option maxRecDepth 20000 in
theorem dL_rank_185 : decode cL_rank 185 = .ok (.iadd, 1) := by decide +kernel
set_option maxRecDepth 20000 in
theorem dL_rank_186 : decode cL_rank 186 = .ok (.laload, 1) := by decide +kernel
set_option maxRecDepth 20000 in
theorem dL_rank_187 : decode cL_rank 187 = .ok (.lload 11, 2) := by decide +kernel
set_option maxRecDepth 20000 in
theorem dL_rank_189 : decode cL_rank 189 = .ok (.lmul, 1) := by decide +kernel
set_option maxRecDepth 20000 in
theorem dL_rank_190 : decode cL_rank 190 = .ok (.lsub, 1) := by decide +kernel
set_option maxRecDepth 20000 in
theorem dL_rank_191 : decode cL_rank 191 = .ok (.lload 4, 2) := by decide +kernel
set_option maxRecDepth 20000 in
theorem dL_rank_193 : decode cL_rank 193 = .ok (.ldiv, 1) := by decide +kernel
set_option maxRecDepth 20000 in
theorem dL_rank_194 : decode cL_rank 194 = .ok (.lastore, 1) := by decide +kernel
set_option maxRecDepth 20000 in
theorem dL_rank_195 : decode cL_rank 195 = .ok (.iinc 13 1, 3) := by decide +kernel
set_option maxRecDepth 20000 in
theorem dL_rank_198 : decode cL_rank 198 = .ok (.goto (-48), 3) := by decide +kernel
set_option maxRecDepth 20000 in
theorem dL_rank_201 : decode cL_rank 201 = .ok (.iinc 10 1, 3) := by decide +kernel
set_option maxRecDepth 20000 in
theorem dL_rank_204 : decode cL_rank 204 = .ok (.goto (-75), 3) := by decide +kernel
set_option maxRecDepth 20000 in
theorem dL_rank_207 : decode cL_rank 207 = .ok (.lload 8, 2) := by decide +kernel
set_option maxRecDepth 20000 in
theorem dL_rank_209 : decode cL_rank 209 = .ok (.lstore 4, 2) := by decide +kernel
set_option maxRecDepth 20000 in
theorem dL_rank_211 : decode cL_rank 211 = .ok (.iinc 3 1, 3) := by decide +kernel
set_option maxRecDepth 20000 in
theorem dL_rank_214 : decode cL_rank 214 = .ok (.iinc 6 1, 3) := by decide +kernel
set_option maxRecDepth 20000 in
theorem dL_rank_217 : decode cL_rank 217 = .ok (.goto (-209), 3) := by decide +kernel
set_option maxRecDepth 20000 in
theorem dL_rank_220 : decode cL_rank 220 = .ok (.iload_n 3, 1) := by decide +kernel
set_option maxRecDepth 20000 in
theorem dL_rank_221 : decode cL_rank 221 = .ok (.ireturn, 1) := by decide +kernel
set_option maxRecDepth 20000 in
theorem dL_minor_0 : decode cL_minor 0 = .ok (.iload_n 2, 1) := by decide +kernel
set_option maxRecDepth 20000 in
theorem dL_minor_1 : decode cL_minor 1 = .ok (.invokestatic 18, 3) := by decide +kernel
set_option maxRecDepth 20000 in
theorem dL_minor_4 : decode cL_minor 4 = .ok (.istore 4, 2) := by decide +kernel
set_option maxRecDepth 20000 in
theorem dL_minor_6 : decode cL_minor 6 = .ok (.iload 4, 2) := by decide +kernel
set_option maxRecDepth 20000 in
theorem dL_minor_8 : decode cL_minor 8 = .ok (.iconst 2, 1) := by decide +kernel
set_option maxRecDepth 20000 in
theorem dL_minor_9 : decode cL_minor 9 = .ok (.if_icmp .ge 7, 3) := by decide +kernel
set_option maxRecDepth 20000 in
theorem dL_minor_12 : decode cL_minor 12 = .ok (.iconst 1, 1) := by decide +kernel
set_option maxRecDepth 20000 in
theorem dL_minor_13 : decode cL_minor 13 = .ok (.goto 37, 3) := by decide +kernel
set_option maxRecDepth 20000 in
theorem dL_minor_16 : decode cL_minor 16 = .ok (.iload 4, 2) := by decide +kernel
set_option maxRecDepth 20000 in
theorem dL_minor_18 : decode cL_minor 18 = .ok (.iconst 2, 1) := by decide +kernel
set_option maxRecDepth 20000 in
theorem dL_minor_19 : decode cL_minor 19 = .ok (.if_icmp .ne 7, 3) := by decide +kernel
set_option maxRecDepth 20000 in
theorem dL_minor_22 : decode cL_minor 22 = .ok (.iconst 2, 1) := by decide +kernel
set_option maxRecDepth 20000 in
theorem dL_minor_23 : decode cL_minor 23 = .ok (.goto 27, 3) := by decide +kernel
set_option maxRecDepth 20000 in
theorem dL_minor_26 : decode cL_minor 26 = .ok (.iload 4, 2) := by decide +kernel
set_option maxRecDepth 20000 in
theorem dL_minor_28 : decode cL_minor 28 = .ok (.iconst 3, 1) := by decide +kernel
set_option maxRecDepth 20000 in
theorem dL_minor_29 : decode cL_minor 29 = .ok (.if_icmp .ne 8, 3) := by decide +kernel
set_option maxRecDepth 20000 in
theorem dL_minor_32 : decode cL_minor 32 = .ok (.bipush 6, 2) := by decide +kernel
set_option maxRecDepth 20000 in
theorem dL_minor_34 : decode cL_minor 34 = .ok (.goto 16, 3) := by decide +kernel
set_option maxRecDepth 20000 in
theorem dL_minor_37 : decode cL_minor 37 = .ok (.iload 4, 2) := by decide +kernel
set_option maxRecDepth 20000 in
theorem dL_minor_39 : decode cL_minor 39 = .ok (.iconst 4, 1) := by decide +kernel
set_option maxRecDepth 20000 in
theorem dL_minor_40 : decode cL_minor 40 = .ok (.if_icmp .ne 8, 3) := by decide +kernel
set_option maxRecDepth 20000 in
theorem dL_minor_43 : decode cL_minor 43 = .ok (.bipush 24, 2) := by decide +kernel
set_option maxRecDepth 20000 in
theorem dL_minor_45 : decode cL_minor 45 = .ok (.goto 5, 3) := by decide +kernel
set_option maxRecDepth 20000 in
theorem dL_minor_48 : decode cL_minor 48 = .ok (.bipush 120, 2) := by decide +kernel
set_option maxRecDepth 20000 in
theorem dL_minor_50 : decode cL_minor 50 = .ok (.istore 5, 2) := by decide +kernel
set_option maxRecDepth 20000 in
theorem dL_minor_52 : decode cL_minor 52 = .ok (.lconst 0, 1) := by decide +kernel
set_option maxRecDepth 20000 in
theorem dL_minor_53 : decode cL_minor 53 = .ok (.lstore 6, 2) := by decide +kernel
set_option maxRecDepth 20000 in
theorem dL_minor_55 : decode cL_minor 55 = .ok (.iconst 0, 1) := by decide +kernel
set_option maxRecDepth 20000 in
theorem dL_minor_56 : decode cL_minor 56 = .ok (.istore 8, 2) := by decide +kernel
set_option maxRecDepth 20000 in
theorem dL_minor_58 : decode cL_minor 58 = .ok (.iload 8, 2) := by decide +kernel
set_option maxRecDepth 20000 in
theorem dL_minor_60 : decode cL_minor 60 = .ok (.iload 5, 2) := by decide +kernel
set_option maxRecDepth 20000 in
theorem dL_minor_62 : decode cL_minor 62 = .ok (.if_icmp .ge 124, 3) := by decide +kernel
set_option maxRecDepth 20000 in
theorem dL_minor_65 : decode cL_minor 65 = .ok (.iload_n 3, 1) := by decide +kernel
set_option maxRecDepth 20000 in
theorem dL_minor_66 : decode cL_minor 66 = .ok (.istore 9, 2) := by decide +kernel
set_option maxRecDepth 20000 in
theorem dL_minor_68 : decode cL_minor 68 = .ok (.iload 8, 2) := by decide +kernel
set_option maxRecDepth 20000 in
theorem dL_minor_70 : decode cL_minor 70 = .ok (.istore 10, 2) := by decide +kernel
set_option maxRecDepth 20000 in
theorem dL_minor_72 : decode cL_minor 72 = .ok (.lconst 1, 1) := by decide +kernel
set_option maxRecDepth 20000 in
theorem dL_minor_73 : decode cL_minor 73 = .ok (.lstore 11, 2) := by decide +kernel
set_option maxRecDepth 20000 in
theorem dL_minor_75 : decode cL_minor 75 = .ok (.iconst 0, 1) := by decide +kernel
set_option maxRecDepth 20000 in
theorem dL_minor_76 : decode cL_minor 76 = .ok (.istore 13, 2) := by decide +kernel
set_option maxRecDepth 20000 in
theorem dL_minor_78 : decode cL_minor 78 = .ok (.iload 13, 2) := by decide +kernel
set_option maxRecDepth 20000 in
theorem dL_minor_80 : decode cL_minor 80 = .ok (.iload 4, 2) := by decide +kernel
set_option maxRecDepth 20000 in
theorem dL_minor_82 : decode cL_minor 82 = .ok (.if_icmp .ge 91, 3) := by decide +kernel
set_option maxRecDepth 20000 in
theorem dL_minor_85 : decode cL_minor 85 = .ok (.iload 10, 2) := by decide +kernel
set_option maxRecDepth 20000 in
theorem dL_minor_87 : decode cL_minor 87 = .ok (.iload 4, 2) := by decide +kernel
set_option maxRecDepth 20000 in
theorem dL_minor_89 : decode cL_minor 89 = .ok (.iload 13, 2) := by decide +kernel
set_option maxRecDepth 20000 in
theorem dL_minor_91 : decode cL_minor 91 = .ok (.isub, 1) := by decide +kernel
set_option maxRecDepth 20000 in
theorem dL_minor_92 : decode cL_minor 92 = .ok (.irem, 1) := by decide +kernel
set_option maxRecDepth 20000 in
theorem dL_minor_93 : decode cL_minor 93 = .ok (.istore 14, 2) := by decide +kernel
set_option maxRecDepth 20000 in
theorem dL_minor_95 : decode cL_minor 95 = .ok (.iload 10, 2) := by decide +kernel
set_option maxRecDepth 20000 in
theorem dL_minor_97 : decode cL_minor 97 = .ok (.iload 4, 2) := by decide +kernel
set_option maxRecDepth 20000 in
theorem dL_minor_99 : decode cL_minor 99 = .ok (.iload 13, 2) := by decide +kernel
set_option maxRecDepth 20000 in
theorem dL_minor_101 : decode cL_minor 101 = .ok (.isub, 1) := by decide +kernel
set_option maxRecDepth 20000 in
theorem dL_minor_102 : decode cL_minor 102 = .ok (.idiv, 1) := by decide +kernel
set_option maxRecDepth 20000 in
theorem dL_minor_103 : decode cL_minor 103 = .ok (.istore 10, 2) := by decide +kernel
set_option maxRecDepth 20000 in
theorem dL_minor_105 : decode cL_minor 105 = .ok (.iload 9, 2) := by decide +kernel
set_option maxRecDepth 20000 in
theorem dL_minor_107 : decode cL_minor 107 = .ok (.iload 14, 2) := by decide +kernel
set_option maxRecDepth 20000 in
theorem dL_minor_109 : decode cL_minor 109 = .ok (.invokestatic 22, 3) := by decide +kernel
set_option maxRecDepth 20000 in
theorem dL_minor_112 : decode cL_minor 112 = .ok (.istore 15, 2) := by decide +kernel
set_option maxRecDepth 20000 in
theorem dL_minor_114 : decode cL_minor 114 = .ok (.iload 9, 2) := by decide +kernel
set_option maxRecDepth 20000 in
theorem dL_minor_116 : decode cL_minor 116 = .ok (.iconst 1, 1) := by decide +kernel
set_option maxRecDepth 20000 in
theorem dL_minor_117 : decode cL_minor 117 = .ok (.iload 15, 2) := by decide +kernel
set_option maxRecDepth 20000 in
theorem dL_minor_119 : decode cL_minor 119 = .ok (.ishl, 1) := by decide +kernel
set_option maxRecDepth 20000 in
theorem dL_minor_120 : decode cL_minor 120 = .ok (.ixor, 1) := by decide +kernel
set_option maxRecDepth 20000 in
theorem dL_minor_121 : decode cL_minor 121 = .ok (.istore 9, 2) := by decide +kernel
set_option maxRecDepth 20000 in
theorem dL_minor_123 : decode cL_minor 123 = .ok (.lload 11, 2) := by decide +kernel
set_option maxRecDepth 20000 in
theorem dL_minor_125 : decode cL_minor 125 = .ok (.iload 14, 2) := by decide +kernel
set_option maxRecDepth 20000 in
theorem dL_minor_127 : decode cL_minor 127 = .ok (.iconst 1, 1) := by decide +kernel
set_option maxRecDepth 20000 in
theorem dL_minor_128 : decode cL_minor 128 = .ok (.iand, 1) := by decide +kernel
set_option maxRecDepth 20000 in
theorem dL_minor_129 : decode cL_minor 129 = .ok (.ifCond .ne 20, 3) := by decide +kernel
set_option maxRecDepth 20000 in
theorem dL_minor_132 : decode cL_minor 132 = .ok (.aload_n 0, 1) := by decide +kernel
set_option maxRecDepth 20000 in
theorem dL_minor_133 : decode cL_minor 133 = .ok (.iload_n 1, 1) := by decide +kernel
set_option maxRecDepth 20000 in
theorem dL_minor_134 : decode cL_minor 134 = .ok (.iload_n 2, 1) := by decide +kernel
set_option maxRecDepth 20000 in
theorem dL_minor_135 : decode cL_minor 135 = .ok (.iload 13, 2) := by decide +kernel
set_option maxRecDepth 20000 in
theorem dL_minor_137 : decode cL_minor 137 = .ok (.invokestatic 22, 3) := by decide +kernel
set_option maxRecDepth 20000 in
theorem dL_minor_140 : decode cL_minor 140 = .ok (.iload 15, 2) := by decide +kernel
set_option maxRecDepth 20000 in
theorem dL_minor_142 : decode cL_minor 142 = .ok (.invokestatic 26, 3) := by decide +kernel
set_option maxRecDepth 20000 in
theorem dL_minor_145 : decode cL_minor 145 = .ok (.i2l, 1) := by decide +kernel
set_option maxRecDepth 20000 in
theorem dL_minor_146 : decode cL_minor 146 = .ok (.goto 18, 3) := by decide +kernel
set_option maxRecDepth 20000 in
theorem dL_minor_149 : decode cL_minor 149 = .ok (.aload_n 0, 1) := by decide +kernel
set_option maxRecDepth 20000 in
theorem dL_minor_150 : decode cL_minor 150 = .ok (.iload_n 1, 1) := by decide +kernel
set_option maxRecDepth 20000 in
theorem dL_minor_151 : decode cL_minor 151 = .ok (.iload_n 2, 1) := by decide +kernel
set_option maxRecDepth 20000 in
theorem dL_minor_152 : decode cL_minor 152 = .ok (.iload 13, 2) := by decide +kernel
set_option maxRecDepth 20000 in
theorem dL_minor_154 : decode cL_minor 154 = .ok (.invokestatic 22, 3) := by decide +kernel
set_option maxRecDepth 20000 in
theorem dL_minor_157 : decode cL_minor 157 = .ok (.iload 15, 2) := by decide +kernel
set_option maxRecDepth 20000 in
theorem dL_minor_159 : decode cL_minor 159 = .ok (.invokestatic 26, 3) := by decide +kernel
set_option maxRecDepth 20000 in
theorem dL_minor_162 : decode cL_minor 162 = .ok (.ineg, 1) := by decide +kernel
set_option maxRecDepth 20000 in
theorem dL_minor_163 : decode cL_minor 163 = .ok (.i2l, 1) := by decide +kernel
set_option maxRecDepth 20000 in
theorem dL_minor_164 : decode cL_minor 164 = .ok (.lmul, 1) := by decide +kernel
set_option maxRecDepth 20000 in
theorem dL_minor_165 : decode cL_minor 165 = .ok (.lstore 11, 2) := by decide +kernel
set_option maxRecDepth 20000 in
theorem dL_minor_167 : decode cL_minor 167 = .ok (.iinc 13 1, 3) := by decide +kernel
set_option maxRecDepth 20000 in
theorem dL_minor_170 : decode cL_minor 170 = .ok (.goto (-92), 3) := by decide +kernel
set_option maxRecDepth 20000 in
theorem dL_minor_173 : decode cL_minor 173 = .ok (.lload 6, 2) := by decide +kernel
set_option maxRecDepth 20000 in
theorem dL_minor_175 : decode cL_minor 175 = .ok (.lload 11, 2) := by decide +kernel
set_option maxRecDepth 20000 in
theorem dL_minor_177 : decode cL_minor 177 = .ok (.ladd, 1) := by decide +kernel
set_option maxRecDepth 20000 in
theorem dL_minor_178 : decode cL_minor 178 = .ok (.lstore 6, 2) := by decide +kernel
set_option maxRecDepth 20000 in
theorem dL_minor_180 : decode cL_minor 180 = .ok (.iinc 8 1, 3) := by decide +kernel
set_option maxRecDepth 20000 in
theorem dL_minor_183 : decode cL_minor 183 = .ok (.goto (-125), 3) := by decide +kernel
set_option maxRecDepth 20000 in
theorem dL_minor_186 : decode cL_minor 186 = .ok (.lload 6, 2) := by decide +kernel
set_option maxRecDepth 20000 in
theorem dL_minor_188 : decode cL_minor 188 = .ok (.lreturn, 1) := by decide +kernel
set_option maxRecDepth 20000 in
theorem dL_rankOf_0 : decode cL_rankOf 0 = .ok (.iload_n 2, 1) := by decide +kernel
set_option maxRecDepth 20000 in
theorem dL_rankOf_1 : decode cL_rankOf 1 = .ok (.invokestatic 18, 3) := by decide +kernel
set_option maxRecDepth 20000 in
theorem dL_rankOf_4 : decode cL_rankOf 4 = .ok (.istore 4, 2) := by decide +kernel
set_option maxRecDepth 20000 in
theorem dL_rankOf_6 : decode cL_rankOf 6 = .ok (.iconst 0, 1) := by decide +kernel
set_option maxRecDepth 20000 in
theorem dL_rankOf_7 : decode cL_rankOf 7 = .ok (.istore 5, 2) := by decide +kernel
set_option maxRecDepth 20000 in
theorem dL_rankOf_9 : decode cL_rankOf 9 = .ok (.iload 5, 2) := by decide +kernel
set_option maxRecDepth 20000 in
theorem dL_rankOf_11 : decode cL_rankOf 11 = .ok (.bipush 42, 2) := by decide +kernel
set_option maxRecDepth 20000 in
theorem dL_rankOf_13 : decode cL_rankOf 13 = .ok (.if_icmp .ge 60, 3) := by decide +kernel
set_option maxRecDepth 20000 in
theorem dL_rankOf_16 : decode cL_rankOf 16 = .ok (.aload_n 3, 1) := by decide +kernel
set_option maxRecDepth 20000 in
theorem dL_rankOf_17 : decode cL_rankOf 17 = .ok (.iload 5, 2) := by decide +kernel
set_option maxRecDepth 20000 in
theorem dL_rankOf_19 : decode cL_rankOf 19 = .ok (.iload 5, 2) := by decide +kernel
set_option maxRecDepth 20000 in
theorem dL_rankOf_21 : decode cL_rankOf 21 = .ok (.bipush 7, 2) := by decide +kernel
set_option maxRecDepth 20000 in
theorem dL_rankOf_23 : decode cL_rankOf 23 = .ok (.idiv, 1) := by decide +kernel
set_option maxRecDepth 20000 in
theorem dL_rankOf_24 : decode cL_rankOf 24 = .ok (.aload_n 0, 1) := by decide +kernel
set_option maxRecDepth 20000 in
theorem dL_rankOf_25 : decode cL_rankOf 25 = .ok (.iload_n 1, 1) := by decide +kernel
set_option maxRecDepth 20000 in
theorem dL_rankOf_26 : decode cL_rankOf 26 = .ok (.invokestatic 30, 3) := by decide +kernel
set_option maxRecDepth 20000 in
theorem dL_rankOf_29 : decode cL_rankOf 29 = .ok (.if_icmp .ge 36, 3) := by decide +kernel
set_option maxRecDepth 20000 in
theorem dL_rankOf_32 : decode cL_rankOf 32 = .ok (.iload 5, 2) := by decide +kernel
set_option maxRecDepth 20000 in
theorem dL_rankOf_34 : decode cL_rankOf 34 = .ok (.bipush 7, 2) := by decide +kernel
set_option maxRecDepth 20000 in
theorem dL_rankOf_36 : decode cL_rankOf 36 = .ok (.irem, 1) := by decide +kernel
set_option maxRecDepth 20000 in
theorem dL_rankOf_37 : decode cL_rankOf 37 = .ok (.iload 4, 2) := by decide +kernel
set_option maxRecDepth 20000 in
theorem dL_rankOf_39 : decode cL_rankOf 39 = .ok (.if_icmp .ge 26, 3) := by decide +kernel
set_option maxRecDepth 20000 in
theorem dL_rankOf_42 : decode cL_rankOf 42 = .ok (.aload_n 0, 1) := by decide +kernel
set_option maxRecDepth 20000 in
theorem dL_rankOf_43 : decode cL_rankOf 43 = .ok (.iload_n 1, 1) := by decide +kernel
set_option maxRecDepth 20000 in
theorem dL_rankOf_44 : decode cL_rankOf 44 = .ok (.iload 5, 2) := by decide +kernel
set_option maxRecDepth 20000 in
theorem dL_rankOf_46 : decode cL_rankOf 46 = .ok (.bipush 7, 2) := by decide +kernel
set_option maxRecDepth 20000 in
theorem dL_rankOf_48 : decode cL_rankOf 48 = .ok (.idiv, 1) := by decide +kernel
set_option maxRecDepth 20000 in
theorem dL_rankOf_49 : decode cL_rankOf 49 = .ok (.iload_n 2, 1) := by decide +kernel
set_option maxRecDepth 20000 in
theorem dL_rankOf_50 : decode cL_rankOf 50 = .ok (.iload 5, 2) := by decide +kernel
set_option maxRecDepth 20000 in
theorem dL_rankOf_52 : decode cL_rankOf 52 = .ok (.bipush 7, 2) := by decide +kernel
set_option maxRecDepth 20000 in
theorem dL_rankOf_54 : decode cL_rankOf 54 = .ok (.irem, 1) := by decide +kernel
set_option maxRecDepth 20000 in
theorem dL_rankOf_55 : decode cL_rankOf 55 = .ok (.invokestatic 22, 3) := by decide +kernel
set_option maxRecDepth 20000 in
theorem dL_rankOf_58 : decode cL_rankOf 58 = .ok (.invokestatic 26, 3) := by decide +kernel
set_option maxRecDepth 20000 in
theorem dL_rankOf_61 : decode cL_rankOf 61 = .ok (.i2l, 1) := by decide +kernel
set_option maxRecDepth 20000 in
theorem dL_rankOf_62 : decode cL_rankOf 62 = .ok (.goto 4, 3) := by decide +kernel
set_option maxRecDepth 20000 in
theorem dL_rankOf_65 : decode cL_rankOf 65 = .ok (.lconst 0, 1) := by decide +kernel
set_option maxRecDepth 20000 in
theorem dL_rankOf_66 : decode cL_rankOf 66 = .ok (.lastore, 1) := by decide +kernel
set_option maxRecDepth 20000 in
theorem dL_rankOf_67 : decode cL_rankOf 67 = .ok (.iinc 5 1, 3) := by decide +kernel
set_option maxRecDepth 20000 in
theorem dL_rankOf_70 : decode cL_rankOf 70 = .ok (.goto (-61), 3) := by decide +kernel
set_option maxRecDepth 20000 in
theorem dL_rankOf_73 : decode cL_rankOf 73 = .ok (.aload_n 3, 1) := by decide +kernel
set_option maxRecDepth 20000 in
theorem dL_rankOf_74 : decode cL_rankOf 74 = .ok (.aload_n 0, 1) := by decide +kernel
set_option maxRecDepth 20000 in
theorem dL_rankOf_75 : decode cL_rankOf 75 = .ok (.iload_n 1, 1) := by decide +kernel
set_option maxRecDepth 20000 in
theorem dL_rankOf_76 : decode cL_rankOf 76 = .ok (.invokestatic 30, 3) := by decide +kernel
set_option maxRecDepth 20000 in
theorem dL_rankOf_79 : decode cL_rankOf 79 = .ok (.iload 4, 2) := by decide +kernel
set_option maxRecDepth 20000 in
theorem dL_rankOf_81 : decode cL_rankOf 81 = .ok (.invokestatic 34, 3) := by decide +kernel
set_option maxRecDepth 20000 in
theorem dL_rankOf_84 : decode cL_rankOf 84 = .ok (.ireturn, 1) := by decide +kernel
set_option maxRecDepth 20000 in
theorem dL_all_0 : decode cL_all 0 = .ok (.iconst 1, 1) := by decide +kernel
set_option maxRecDepth 20000 in
theorem dL_all_1 : decode cL_all 1 = .ok (.aload_n 0, 1) := by decide +kernel
set_option maxRecDepth 20000 in
theorem dL_all_2 : decode cL_all 2 = .ok (.iload_n 1, 1) := by decide +kernel
set_option maxRecDepth 20000 in
theorem dL_all_3 : decode cL_all 3 = .ok (.iaload, 1) := by decide +kernel
set_option maxRecDepth 20000 in
theorem dL_all_4 : decode cL_all 4 = .ok (.ishl, 1) := by decide +kernel
set_option maxRecDepth 20000 in
theorem dL_all_5 : decode cL_all 5 = .ok (.iconst 1, 1) := by decide +kernel
set_option maxRecDepth 20000 in
theorem dL_all_6 : decode cL_all 6 = .ok (.isub, 1) := by decide +kernel
set_option maxRecDepth 20000 in
theorem dL_all_7 : decode cL_all 7 = .ok (.ireturn, 1) := by decide +kernel
set_option maxRecDepth 20000 in
theorem dL_divisor_0 : decode cL_divisor 0 = .ok (.lconst 0, 1) := by decide +kernel
set_option maxRecDepth 20000 in
theorem dL_divisor_1 : decode cL_divisor 1 = .ok (.lstore_n 3, 1) := by decide +kernel
set_option maxRecDepth 20000 in
theorem dL_divisor_2 : decode cL_divisor 2 = .ok (.iconst 0, 1) := by decide +kernel
set_option maxRecDepth 20000 in
theorem dL_divisor_3 : decode cL_divisor 3 = .ok (.istore 5, 2) := by decide +kernel
set_option maxRecDepth 20000 in
theorem dL_divisor_5 : decode cL_divisor 5 = .ok (.iload 5, 2) := by decide +kernel
set_option maxRecDepth 20000 in
theorem dL_divisor_7 : decode cL_divisor 7 = .ok (.iconst 1, 1) := by decide +kernel
set_option maxRecDepth 20000 in
theorem dL_divisor_8 : decode cL_divisor 8 = .ok (.aload_n 0, 1) := by decide +kernel
set_option maxRecDepth 20000 in
theorem dL_divisor_9 : decode cL_divisor 9 = .ok (.iconst 1, 1) := by decide +kernel
set_option maxRecDepth 20000 in
theorem dL_divisor_10 : decode cL_divisor 10 = .ok (.iaload, 1) := by decide +kernel
set_option maxRecDepth 20000 in
theorem dL_divisor_11 : decode cL_divisor 11 = .ok (.ishl, 1) := by decide +kernel
set_option maxRecDepth 20000 in
theorem dL_divisor_12 : decode cL_divisor 12 = .ok (.if_icmp .ge 73, 3) := by decide +kernel
set_option maxRecDepth 20000 in
theorem dL_divisor_15 : decode cL_divisor 15 = .ok (.iload_n 1, 1) := by decide +kernel
set_option maxRecDepth 20000 in
theorem dL_divisor_16 : decode cL_divisor 16 = .ok (.istore 6, 2) := by decide +kernel
set_option maxRecDepth 20000 in
theorem dL_divisor_18 : decode cL_divisor 18 = .ok (.iload 6, 2) := by decide +kernel
set_option maxRecDepth 20000 in
theorem dL_divisor_20 : decode cL_divisor 20 = .ok (.ifCond .lt 59, 3) := by decide +kernel
set_option maxRecDepth 20000 in
theorem dL_divisor_23 : decode cL_divisor 23 = .ok (.iload 5, 2) := by decide +kernel
set_option maxRecDepth 20000 in
theorem dL_divisor_25 : decode cL_divisor 25 = .ok (.invokestatic 18, 3) := by decide +kernel
set_option maxRecDepth 20000 in
theorem dL_divisor_28 : decode cL_divisor 28 = .ok (.iload_n 2, 1) := by decide +kernel
set_option maxRecDepth 20000 in
theorem dL_divisor_29 : decode cL_divisor 29 = .ok (.if_icmp .ne 28, 3) := by decide +kernel
set_option maxRecDepth 20000 in
theorem dL_divisor_32 : decode cL_divisor 32 = .ok (.iload 6, 2) := by decide +kernel
set_option maxRecDepth 20000 in
theorem dL_divisor_34 : decode cL_divisor 34 = .ok (.invokestatic 18, 3) := by decide +kernel
set_option maxRecDepth 20000 in
theorem dL_divisor_37 : decode cL_divisor 37 = .ok (.iload_n 2, 1) := by decide +kernel
set_option maxRecDepth 20000 in
theorem dL_divisor_38 : decode cL_divisor 38 = .ok (.if_icmp .ne 19, 3) := by decide +kernel
set_option maxRecDepth 20000 in
theorem dL_divisor_41 : decode cL_divisor 41 = .ok (.lload_n 3, 1) := by decide +kernel
set_option maxRecDepth 20000 in
theorem dL_divisor_42 : decode cL_divisor 42 = .ok (.aload_n 0, 1) := by decide +kernel
set_option maxRecDepth 20000 in
theorem dL_divisor_43 : decode cL_divisor 43 = .ok (.iconst 2, 1) := by decide +kernel
set_option maxRecDepth 20000 in
theorem dL_divisor_44 : decode cL_divisor 44 = .ok (.iload 5, 2) := by decide +kernel
set_option maxRecDepth 20000 in
theorem dL_divisor_46 : decode cL_divisor 46 = .ok (.iload 6, 2) := by decide +kernel
set_option maxRecDepth 20000 in
theorem dL_divisor_48 : decode cL_divisor 48 = .ok (.invokestatic 38, 3) := by decide +kernel
set_option maxRecDepth 20000 in
theorem dL_divisor_51 : decode cL_divisor 51 = .ok (.invokestatic 42, 3) := by decide +kernel
set_option maxRecDepth 20000 in
theorem dL_divisor_54 : decode cL_divisor 54 = .ok (.goto 4, 3) := by decide +kernel
set_option maxRecDepth 20000 in
theorem dL_divisor_57 : decode cL_divisor 57 = .ok (.lload_n 3, 1) := by decide +kernel
set_option maxRecDepth 20000 in
theorem dL_divisor_58 : decode cL_divisor 58 = .ok (.lstore_n 3, 1) := by decide +kernel
set_option maxRecDepth 20000 in
theorem dL_divisor_59 : decode cL_divisor 59 = .ok (.iload 6, 2) := by decide +kernel
set_option maxRecDepth 20000 in
theorem dL_divisor_61 : decode cL_divisor 61 = .ok (.ifCond .ne 7, 3) := by decide +kernel
set_option maxRecDepth 20000 in
theorem dL_divisor_64 : decode cL_divisor 64 = .ok (.iconst (-1), 1) := by decide +kernel
set_option maxRecDepth 20000 in
theorem dL_divisor_65 : decode cL_divisor 65 = .ok (.goto 9, 3) := by decide +kernel
set_option maxRecDepth 20000 in
theorem dL_divisor_68 : decode cL_divisor 68 = .ok (.iload 6, 2) := by decide +kernel
set_option maxRecDepth 20000 in
theorem dL_divisor_70 : decode cL_divisor 70 = .ok (.iconst 1, 1) := by decide +kernel
set_option maxRecDepth 20000 in
theorem dL_divisor_71 : decode cL_divisor 71 = .ok (.isub, 1) := by decide +kernel
set_option maxRecDepth 20000 in
theorem dL_divisor_72 : decode cL_divisor 72 = .ok (.iload_n 1, 1) := by decide +kernel
set_option maxRecDepth 20000 in
theorem dL_divisor_73 : decode cL_divisor 73 = .ok (.iand, 1) := by decide +kernel
set_option maxRecDepth 20000 in
theorem dL_divisor_74 : decode cL_divisor 74 = .ok (.istore 6, 2) := by decide +kernel
set_option maxRecDepth 20000 in
theorem dL_divisor_76 : decode cL_divisor 76 = .ok (.goto (-58), 3) := by decide +kernel
set_option maxRecDepth 20000 in
theorem dL_divisor_79 : decode cL_divisor 79 = .ok (.iinc 5 1, 3) := by decide +kernel
set_option maxRecDepth 20000 in
theorem dL_divisor_82 : decode cL_divisor 82 = .ok (.goto (-77), 3) := by decide +kernel
set_option maxRecDepth 20000 in
theorem dL_divisor_85 : decode cL_divisor 85 = .ok (.lload_n 3, 1) := by decide +kernel
set_option maxRecDepth 20000 in
theorem dL_divisor_86 : decode cL_divisor 86 = .ok (.lreturn, 1) := by decide +kernel
set_option maxRecDepth 20000 in
theorem dL_begin_0 : decode cL_begin 0 = .ok (.iload_n 1, 1) := by decide +kernel
set_option maxRecDepth 20000 in
theorem dL_begin_1 : decode cL_begin 1 = .ok (.ifCond .le 13, 3) := by decide +kernel
set_option maxRecDepth 20000 in
theorem dL_begin_4 : decode cL_begin 4 = .ok (.aload_n 0, 1) := by decide +kernel
set_option maxRecDepth 20000 in
theorem dL_begin_5 : decode cL_begin 5 = .ok (.iconst 1, 1) := by decide +kernel
set_option maxRecDepth 20000 in
theorem dL_begin_6 : decode cL_begin 6 = .ok (.iconst 3, 1) := by decide +kernel
set_option maxRecDepth 20000 in
theorem dL_begin_7 : decode cL_begin 7 = .ok (.iload_n 1, 1) := by decide +kernel
set_option maxRecDepth 20000 in
theorem dL_begin_8 : decode cL_begin 8 = .ok (.imul, 1) := by decide +kernel
set_option maxRecDepth 20000 in
theorem dL_begin_9 : decode cL_begin 9 = .ok (.iadd, 1) := by decide +kernel
set_option maxRecDepth 20000 in
theorem dL_begin_10 : decode cL_begin 10 = .ok (.iaload, 1) := by decide +kernel
set_option maxRecDepth 20000 in
theorem dL_begin_11 : decode cL_begin 11 = .ok (.goto 10, 3) := by decide +kernel
set_option maxRecDepth 20000 in
theorem dL_begin_14 : decode cL_begin 14 = .ok (.aload_n 0, 1) := by decide +kernel
set_option maxRecDepth 20000 in
theorem dL_begin_15 : decode cL_begin 15 = .ok (.iconst 2, 1) := by decide +kernel
set_option maxRecDepth 20000 in
theorem dL_begin_16 : decode cL_begin 16 = .ok (.iconst 3, 1) := by decide +kernel
set_option maxRecDepth 20000 in
theorem dL_begin_17 : decode cL_begin 17 = .ok (.iload_n 1, 1) := by decide +kernel
set_option maxRecDepth 20000 in
theorem dL_begin_18 : decode cL_begin 18 = .ok (.imul, 1) := by decide +kernel
set_option maxRecDepth 20000 in
theorem dL_begin_19 : decode cL_begin 19 = .ok (.isub, 1) := by decide +kernel
set_option maxRecDepth 20000 in
theorem dL_begin_20 : decode cL_begin 20 = .ok (.iaload, 1) := by decide +kernel
set_option maxRecDepth 20000 in
theorem dL_begin_21 : decode cL_begin 21 = .ok (.ireturn, 1) := by decide +kernel
set_option maxRecDepth 20000 in
theorem dL_end_0 : decode cL_end 0 = .ok (.iload_n 1, 1) := by decide +kernel
set_option maxRecDepth 20000 in
theorem dL_end_1 : decode cL_end 1 = .ok (.ifCond .le 13, 3) := by decide +kernel
set_option maxRecDepth 20000 in
theorem dL_end_4 : decode cL_end 4 = .ok (.aload_n 0, 1) := by decide +kernel
set_option maxRecDepth 20000 in
theorem dL_end_5 : decode cL_end 5 = .ok (.iconst 2, 1) := by decide +kernel
set_option maxRecDepth 20000 in
theorem dL_end_6 : decode cL_end 6 = .ok (.iconst 3, 1) := by decide +kernel
set_option maxRecDepth 20000 in
theorem dL_end_7 : decode cL_end 7 = .ok (.iload_n 1, 1) := by decide +kernel
set_option maxRecDepth 20000 in
theorem dL_end_8 : decode cL_end 8 = .ok (.imul, 1) := by decide +kernel
set_option maxRecDepth 20000 in
theorem dL_end_9 : decode cL_end 9 = .ok (.iadd, 1) := by decide +kernel
set_option maxRecDepth 20000 in
theorem dL_end_10 : decode cL_end 10 = .ok (.iaload, 1) := by decide +kernel
set_option maxRecDepth 20000 in
theorem dL_end_11 : decode cL_end 11 = .ok (.goto 10, 3) := by decide +kernel
set_option maxRecDepth 20000 in
theorem dL_end_14 : decode cL_end 14 = .ok (.aload_n 0, 1) := by decide +kernel
set_option maxRecDepth 20000 in
theorem dL_end_15 : decode cL_end 15 = .ok (.iconst 1, 1) := by decide +kernel
set_option maxRecDepth 20000 in
theorem dL_end_16 : decode cL_end 16 = .ok (.iconst 3, 1) := by decide +kernel
set_option maxRecDepth 20000 in
theorem dL_end_17 : decode cL_end 17 = .ok (.iload_n 1, 1) := by decide +kernel
set_option maxRecDepth 20000 in
theorem dL_end_18 : decode cL_end 18 = .ok (.imul, 1) := by decide +kernel
set_option maxRecDepth 20000 in
theorem dL_end_19 : decode cL_end 19 = .ok (.isub, 1) := by decide +kernel
set_option maxRecDepth 20000 in
theorem dL_end_20 : decode cL_end 20 = .ok (.iaload, 1) := by decide +kernel
set_option maxRecDepth 20000 in
theorem dL_end_21 : decode cL_end 21 = .ok (.ireturn, 1) := by decide +kernel
set_option maxRecDepth 20000 in
theorem dL_code_0 : decode cL_code 0 = .ok (.iload_n 0, 1) := by decide +kernel
set_option maxRecDepth 20000 in
theorem dL_code_1 : decode cL_code 1 = .ok (.ifCond .le 10, 3) := by decide +kernel
set_option maxRecDepth 20000 in
theorem dL_code_4 : decode cL_code 4 = .ok (.bipush 96, 2) := by decide +kernel
set_option maxRecDepth 20000 in
theorem dL_code_6 : decode cL_code 6 = .ok (.iload_n 0, 1) := by decide +kernel
set_option maxRecDepth 20000 in
theorem dL_code_7 : decode cL_code 7 = .ok (.iadd, 1) := by decide +kernel
set_option maxRecDepth 20000 in
theorem dL_code_8 : decode cL_code 8 = .ok (.goto 7, 3) := by decide +kernel
set_option maxRecDepth 20000 in
theorem dL_code_11 : decode cL_code 11 = .ok (.bipush 64, 2) := by decide +kernel
set_option maxRecDepth 20000 in
theorem dL_code_13 : decode cL_code 13 = .ok (.iload_n 0, 1) := by decide +kernel
set_option maxRecDepth 20000 in
theorem dL_code_14 : decode cL_code 14 = .ok (.isub, 1) := by decide +kernel
set_option maxRecDepth 20000 in
theorem dL_code_15 : decode cL_code 15 = .ok (.ireturn, 1) := by decide +kernel
set_option maxRecDepth 20000 in
theorem dL_word_0 : decode cL_word 0 = .ok (.bipush 24, 2) := by decide +kernel
set_option maxRecDepth 20000 in
theorem dL_word_2 : decode cL_word 2 = .ok (.bipush 6, 2) := by decide +kernel
set_option maxRecDepth 20000 in
theorem dL_word_4 : decode cL_word 4 = .ok (.iload_n 1, 1) := by decide +kernel
set_option maxRecDepth 20000 in
theorem dL_word_5 : decode cL_word 5 = .ok (.imul, 1) := by decide +kernel
set_option maxRecDepth 20000 in
theorem dL_word_6 : decode cL_word 6 = .ok (.iadd, 1) := by decide +kernel
set_option maxRecDepth 20000 in
theorem dL_word_7 : decode cL_word 7 = .ok (.istore_n 3, 1) := by decide +kernel
set_option maxRecDepth 20000 in
theorem dL_word_8 : decode cL_word 8 = .ok (.aload_n 0, 1) := by decide +kernel
set_option maxRecDepth 20000 in
theorem dL_word_9 : decode cL_word 9 = .ok (.iconst 1, 1) := by decide +kernel
set_option maxRecDepth 20000 in
theorem dL_word_10 : decode cL_word 10 = .ok (.iaload, 1) := by decide +kernel
set_option maxRecDepth 20000 in
theorem dL_word_11 : decode cL_word 11 = .ok (.ifCond .ne 5, 3) := by decide +kernel
set_option maxRecDepth 20000 in
theorem dL_word_14 : decode cL_word 14 = .ok (.iconst 0, 1) := by decide +kernel
set_option maxRecDepth 20000 in
theorem dL_word_15 : decode cL_word 15 = .ok (.ireturn, 1) := by decide +kernel
set_option maxRecDepth 20000 in
theorem dL_word_16 : decode cL_word 16 = .ok (.iconst 0, 1) := by decide +kernel
set_option maxRecDepth 20000 in
theorem dL_word_17 : decode cL_word 17 = .ok (.istore 4, 2) := by decide +kernel
set_option maxRecDepth 20000 in
theorem dL_word_19 : decode cL_word 19 = .ok (.iload 4, 2) := by decide +kernel
set_option maxRecDepth 20000 in
theorem dL_word_21 : decode cL_word 21 = .ok (.bipush 16, 2) := by decide +kernel
set_option maxRecDepth 20000 in
theorem dL_word_23 : decode cL_word 23 = .ok (.if_icmp .ge 196, 3) := by decide +kernel
set_option maxRecDepth 20000 in
theorem dL_word_26 : decode cL_word 26 = .ok (.iload_n 2, 1) := by decide +kernel
set_option maxRecDepth 20000 in
theorem dL_word_27 : decode cL_word 27 = .ok (.bipush 7, 2) := by decide +kernel
set_option maxRecDepth 20000 in
theorem dL_word_29 : decode cL_word 29 = .ok (.iload 4, 2) := by decide +kernel
set_option maxRecDepth 20000 in
theorem dL_word_31 : decode cL_word 31 = .ok (.imul, 1) := by decide +kernel
set_option maxRecDepth 20000 in
theorem dL_word_32 : decode cL_word 32 = .ok (.iadd, 1) := by decide +kernel
set_option maxRecDepth 20000 in
theorem dL_word_33 : decode cL_word 33 = .ok (.istore 5, 2) := by decide +kernel
set_option maxRecDepth 20000 in
theorem dL_word_35 : decode cL_word 35 = .ok (.iconst 0, 1) := by decide +kernel
set_option maxRecDepth 20000 in
theorem dL_word_36 : decode cL_word 36 = .ok (.istore 6, 2) := by decide +kernel
set_option maxRecDepth 20000 in
theorem dL_word_38 : decode cL_word 38 = .ok (.iconst 1, 1) := by decide +kernel
set_option maxRecDepth 20000 in
theorem dL_word_39 : decode cL_word 39 = .ok (.istore 7, 2) := by decide +kernel
set_option maxRecDepth 20000 in
theorem dL_word_41 : decode cL_word 41 = .ok (.iconst 0, 1) := by decide +kernel
set_option maxRecDepth 20000 in
theorem dL_word_42 : decode cL_word 42 = .ok (.istore 8, 2) := by decide +kernel
set_option maxRecDepth 20000 in
theorem dL_word_44 : decode cL_word 44 = .ok (.iload 8, 2) := by decide +kernel
set_option maxRecDepth 20000 in
theorem dL_word_46 : decode cL_word 46 = .ok (.iconst 4, 1) := by decide +kernel
set_option maxRecDepth 20000 in
theorem dL_word_47 : decode cL_word 47 = .ok (.if_icmp .ge 166, 3) := by decide +kernel
set_option maxRecDepth 20000 in
theorem dL_word_50 : decode cL_word 50 = .ok (.iload 7, 2) := by decide +kernel
set_option maxRecDepth 20000 in
theorem dL_word_52 : decode cL_word 52 = .ok (.ifCond .eq 161, 3) := by decide +kernel
set_option maxRecDepth 20000 in
theorem dL_word_55 : decode cL_word 55 = .ok (.iconst 1, 1) := by decide +kernel
set_option maxRecDepth 20000 in
theorem dL_word_56 : decode cL_word 56 = .ok (.iload 5, 2) := by decide +kernel
set_option maxRecDepth 20000 in
theorem dL_word_58 : decode cL_word 58 = .ok (.iconst 4, 1) := by decide +kernel
set_option maxRecDepth 20000 in
theorem dL_word_59 : decode cL_word 59 = .ok (.iload 8, 2) := by decide +kernel
set_option maxRecDepth 20000 in
theorem dL_word_61 : decode cL_word 61 = .ok (.imul, 1) := by decide +kernel
set_option maxRecDepth 20000 in
theorem dL_word_62 : decode cL_word 62 = .ok (.ishr, 1) := by decide +kernel
set_option maxRecDepth 20000 in
theorem dL_word_63 : decode cL_word 63 = .ok (.aload_n 0, 1) := by decide +kernel
set_option maxRecDepth 20000 in
theorem dL_word_64 : decode cL_word 64 = .ok (.iconst 1, 1) := by decide +kernel
set_option maxRecDepth 20000 in
theorem dL_word_65 : decode cL_word 65 = .ok (.iaload, 1) := by decide +kernel
set_option maxRecDepth 20000 in
theorem dL_word_66 : decode cL_word 66 = .ok (.invokestatic 46, 3) := by decide +kernel
set_option maxRecDepth 20000 in
theorem dL_word_69 : decode cL_word 69 = .ok (.iadd, 1) := by decide +kernel
set_option maxRecDepth 20000 in
theorem dL_word_70 : decode cL_word 70 = .ok (.istore 9, 2) := by decide +kernel
set_option maxRecDepth 20000 in
theorem dL_word_72 : decode cL_word 72 = .ok (.iload 5, 2) := by decide +kernel
set_option maxRecDepth 20000 in
theorem dL_word_74 : decode cL_word 74 = .ok (.iconst 4, 1) := by decide +kernel
set_option maxRecDepth 20000 in
theorem dL_word_75 : decode cL_word 75 = .ok (.iload 8, 2) := by decide +kernel
set_option maxRecDepth 20000 in
theorem dL_word_77 : decode cL_word 77 = .ok (.imul, 1) := by decide +kernel
set_option maxRecDepth 20000 in
theorem dL_word_78 : decode cL_word 78 = .ok (.iconst 3, 1) := by decide +kernel
set_option maxRecDepth 20000 in
theorem dL_word_79 : decode cL_word 79 = .ok (.iadd, 1) := by decide +kernel
set_option maxRecDepth 20000 in
theorem dL_word_80 : decode cL_word 80 = .ok (.ishr, 1) := by decide +kernel
set_option maxRecDepth 20000 in
theorem dL_word_81 : decode cL_word 81 = .ok (.iconst 1, 1) := by decide +kernel
set_option maxRecDepth 20000 in
theorem dL_word_82 : decode cL_word 82 = .ok (.iand, 1) := by decide +kernel
set_option maxRecDepth 20000 in
theorem dL_word_83 : decode cL_word 83 = .ok (.ifCond .ne 8, 3) := by decide +kernel
set_option maxRecDepth 20000 in
theorem dL_word_86 : decode cL_word 86 = .ok (.iload 9, 2) := by decide +kernel
set_option maxRecDepth 20000 in
theorem dL_word_88 : decode cL_word 88 = .ok (.goto 6, 3) := by decide +kernel
set_option maxRecDepth 20000 in
theorem dL_word_91 : decode cL_word 91 = .ok (.iload 9, 2) := by decide +kernel
set_option maxRecDepth 20000 in
theorem dL_word_93 : decode cL_word 93 = .ok (.ineg, 1) := by decide +kernel
set_option maxRecDepth 20000 in
theorem dL_word_94 : decode cL_word 94 = .ok (.istore 10, 2) := by decide +kernel
set_option maxRecDepth 20000 in
theorem dL_word_96 : decode cL_word 96 = .ok (.iload 6, 2) := by decide +kernel
set_option maxRecDepth 20000 in
theorem dL_word_98 : decode cL_word 98 = .ok (.ifCond .le 30, 3) := by decide +kernel
set_option maxRecDepth 20000 in
theorem dL_word_101 : decode cL_word 101 = .ok (.aload_n 0, 1) := by decide +kernel
set_option maxRecDepth 20000 in
theorem dL_word_102 : decode cL_word 102 = .ok (.iload 10, 2) := by decide +kernel
set_option maxRecDepth 20000 in
theorem dL_word_104 : decode cL_word 104 = .ok (.invokestatic 49, 3) := by decide +kernel
set_option maxRecDepth 20000 in
theorem dL_word_107 : decode cL_word 107 = .ok (.aload_n 0, 1) := by decide +kernel
set_option maxRecDepth 20000 in
theorem dL_word_108 : decode cL_word 108 = .ok (.aload_n 0, 1) := by decide +kernel
set_option maxRecDepth 20000 in
theorem dL_word_109 : decode cL_word 109 = .ok (.iload_n 3, 1) := by decide +kernel
set_option maxRecDepth 20000 in
theorem dL_word_110 : decode cL_word 110 = .ok (.iload 6, 2) := by decide +kernel
set_option maxRecDepth 20000 in
theorem dL_word_112 : decode cL_word 112 = .ok (.iadd, 1) := by decide +kernel
set_option maxRecDepth 20000 in
theorem dL_word_113 : decode cL_word 113 = .ok (.iconst 1, 1) := by decide +kernel
set_option maxRecDepth 20000 in
theorem dL_word_114 : decode cL_word 114 = .ok (.isub, 1) := by decide +kernel
set_option maxRecDepth 20000 in
theorem dL_word_115 : decode cL_word 115 = .ok (.iaload, 1) := by decide +kernel
set_option maxRecDepth 20000 in
theorem dL_word_116 : decode cL_word 116 = .ok (.invokestatic 52, 3) := by decide +kernel
set_option maxRecDepth 20000 in
theorem dL_word_119 : decode cL_word 119 = .ok (.if_icmp .eq 9, 3) := by decide +kernel
set_option maxRecDepth 20000 in
theorem dL_word_122 : decode cL_word 122 = .ok (.iload 10, 2) := by decide +kernel
set_option maxRecDepth 20000 in
theorem dL_word_124 : decode cL_word 124 = .ok (.ineg, 1) := by decide +kernel
set_option maxRecDepth 20000 in
theorem dL_word_125 : decode cL_word 125 = .ok (.goto 5, 3) := by decide +kernel
set_option maxRecDepth 20000 in
theorem dL_word_128 : decode cL_word 128 = .ok (.iload 10, 2) := by decide +kernel
set_option maxRecDepth 20000 in
theorem dL_word_130 : decode cL_word 130 = .ok (.istore 10, 2) := by decide +kernel
set_option maxRecDepth 20000 in
theorem dL_word_132 : decode cL_word 132 = .ok (.iload 6, 2) := by decide +kernel
set_option maxRecDepth 20000 in
theorem dL_word_134 : decode cL_word 134 = .ok (.ifCond .eq 24, 3) := by decide +kernel
set_option maxRecDepth 20000 in
theorem dL_word_137 : decode cL_word 137 = .ok (.aload_n 0, 1) := by decide +kernel
set_option maxRecDepth 20000 in
theorem dL_word_138 : decode cL_word 138 = .ok (.iload 10, 2) := by decide +kernel
set_option maxRecDepth 20000 in
theorem dL_word_140 : decode cL_word 140 = .ok (.invokestatic 49, 3) := by decide +kernel
set_option maxRecDepth 20000 in
theorem dL_word_143 : decode cL_word 143 = .ok (.aload_n 0, 1) := by decide +kernel
set_option maxRecDepth 20000 in
theorem dL_word_144 : decode cL_word 144 = .ok (.aload_n 0, 1) := by decide +kernel
set_option maxRecDepth 20000 in
theorem dL_word_145 : decode cL_word 145 = .ok (.iload_n 3, 1) := by decide +kernel
set_option maxRecDepth 20000 in
theorem dL_word_146 : decode cL_word 146 = .ok (.iload 6, 2) := by decide +kernel
set_option maxRecDepth 20000 in
theorem dL_word_148 : decode cL_word 148 = .ok (.iadd, 1) := by decide +kernel
set_option maxRecDepth 20000 in
theorem dL_word_149 : decode cL_word 149 = .ok (.iconst 1, 1) := by decide +kernel
set_option maxRecDepth 20000 in
theorem dL_word_150 : decode cL_word 150 = .ok (.isub, 1) := by decide +kernel
set_option maxRecDepth 20000 in
theorem dL_word_151 : decode cL_word 151 = .ok (.iaload, 1) := by decide +kernel
set_option maxRecDepth 20000 in
theorem dL_word_152 : decode cL_word 152 = .ok (.invokestatic 52, 3) := by decide +kernel
set_option maxRecDepth 20000 in
theorem dL_word_155 : decode cL_word 155 = .ok (.if_icmp .ne 7, 3) := by decide +kernel
set_option maxRecDepth 20000 in
theorem dL_word_158 : decode cL_word 158 = .ok (.iconst 1, 1) := by decide +kernel
set_option maxRecDepth 20000 in
theorem dL_word_159 : decode cL_word 159 = .ok (.goto 4, 3) := by decide +kernel
set_option maxRecDepth 20000 in
theorem dL_word_162 : decode cL_word 162 = .ok (.iconst 0, 1) := by decide +kernel
set_option maxRecDepth 20000 in
theorem dL_word_163 : decode cL_word 163 = .ok (.istore 7, 2) := by decide +kernel
set_option maxRecDepth 20000 in
theorem dL_word_165 : decode cL_word 165 = .ok (.iload 7, 2) := by decide +kernel
set_option maxRecDepth 20000 in
theorem dL_word_167 : decode cL_word 167 = .ok (.ifCond .eq 40, 3) := by decide +kernel
set_option maxRecDepth 20000 in
theorem dL_word_170 : decode cL_word 170 = .ok (.aload_n 0, 1) := by decide +kernel
set_option maxRecDepth 20000 in
theorem dL_word_171 : decode cL_word 171 = .ok (.iload_n 3, 1) := by decide +kernel
set_option maxRecDepth 20000 in
theorem dL_word_172 : decode cL_word 172 = .ok (.iload 6, 2) := by decide +kernel
set_option maxRecDepth 20000 in
theorem dL_word_174 : decode cL_word 174 = .ok (.iadd, 1) := by decide +kernel
set_option maxRecDepth 20000 in
theorem dL_word_175 : decode cL_word 175 = .ok (.iload 10, 2) := by decide +kernel
set_option maxRecDepth 20000 in
theorem dL_word_177 : decode cL_word 177 = .ok (.iastore, 1) := by decide +kernel
set_option maxRecDepth 20000 in
theorem dL_word_178 : decode cL_word 178 = .ok (.iinc 6 1, 3) := by decide +kernel
set_option maxRecDepth 20000 in
theorem dL_word_181 : decode cL_word 181 = .ok (.aload_n 0, 1) := by decide +kernel
set_option maxRecDepth 20000 in
theorem dL_word_182 : decode cL_word 182 = .ok (.iload 10, 2) := by decide +kernel
set_option maxRecDepth 20000 in
theorem dL_word_184 : decode cL_word 184 = .ok (.invokestatic 52, 3) := by decide +kernel
set_option maxRecDepth 20000 in
theorem dL_word_187 : decode cL_word 187 = .ok (.aload_n 0, 1) := by decide +kernel
set_option maxRecDepth 20000 in
theorem dL_word_188 : decode cL_word 188 = .ok (.aload_n 0, 1) := by decide +kernel
set_option maxRecDepth 20000 in
theorem dL_word_189 : decode cL_word 189 = .ok (.iload_n 3, 1) := by decide +kernel
set_option maxRecDepth 20000 in
theorem dL_word_190 : decode cL_word 190 = .ok (.iaload, 1) := by decide +kernel
set_option maxRecDepth 20000 in
theorem dL_word_191 : decode cL_word 191 = .ok (.invokestatic 49, 3) := by decide +kernel
set_option maxRecDepth 20000 in
theorem dL_word_194 : decode cL_word 194 = .ok (.if_icmp .ne 13, 3) := by decide +kernel
set_option maxRecDepth 20000 in
theorem dL_word_197 : decode cL_word 197 = .ok (.aload_n 0, 1) := by decide +kernel
set_option maxRecDepth 20000 in
theorem dL_word_198 : decode cL_word 198 = .ok (.iload_n 3, 1) := by decide +kernel
set_option maxRecDepth 20000 in
theorem dL_word_199 : decode cL_word 199 = .ok (.iconst 1, 1) := by decide +kernel
set_option maxRecDepth 20000 in
theorem dL_word_200 : decode cL_word 200 = .ok (.isub, 1) := by decide +kernel
set_option maxRecDepth 20000 in
theorem dL_word_201 : decode cL_word 201 = .ok (.iload 6, 2) := by decide +kernel
set_option maxRecDepth 20000 in
theorem dL_word_203 : decode cL_word 203 = .ok (.iastore, 1) := by decide +kernel
set_option maxRecDepth 20000 in
theorem dL_word_204 : decode cL_word 204 = .ok (.iload 6, 2) := by decide +kernel
set_option maxRecDepth 20000 in
theorem dL_word_206 : decode cL_word 206 = .ok (.ireturn, 1) := by decide +kernel
set_option maxRecDepth 20000 in
theorem dL_word_207 : decode cL_word 207 = .ok (.iinc 8 1, 3) := by decide +kernel
set_option maxRecDepth 20000 in
theorem dL_word_210 : decode cL_word 210 = .ok (.goto (-166), 3) := by decide +kernel
set_option maxRecDepth 20000 in
theorem dL_word_213 : decode cL_word 213 = .ok (.iinc 4 1, 3) := by decide +kernel
set_option maxRecDepth 20000 in
theorem dL_word_216 : decode cL_word 216 = .ok (.goto (-197), 3) := by decide +kernel
set_option maxRecDepth 20000 in
theorem dL_word_219 : decode cL_word 219 = .ok (.aload_n 0, 1) := by decide +kernel
set_option maxRecDepth 20000 in
theorem dL_word_220 : decode cL_word 220 = .ok (.iload_n 3, 1) := by decide +kernel
set_option maxRecDepth 20000 in
theorem dL_word_221 : decode cL_word 221 = .ok (.iconst 1, 1) := by decide +kernel
set_option maxRecDepth 20000 in
theorem dL_word_222 : decode cL_word 222 = .ok (.iastore, 1) := by decide +kernel
set_option maxRecDepth 20000 in
theorem dL_word_223 : decode cL_word 223 = .ok (.aload_n 0, 1) := by decide +kernel
set_option maxRecDepth 20000 in
theorem dL_word_224 : decode cL_word 224 = .ok (.iload_n 3, 1) := by decide +kernel
set_option maxRecDepth 20000 in
theorem dL_word_225 : decode cL_word 225 = .ok (.iconst 1, 1) := by decide +kernel
set_option maxRecDepth 20000 in
theorem dL_word_226 : decode cL_word 226 = .ok (.iadd, 1) := by decide +kernel
set_option maxRecDepth 20000 in
theorem dL_word_227 : decode cL_word 227 = .ok (.iconst (-1), 1) := by decide +kernel
set_option maxRecDepth 20000 in
theorem dL_word_228 : decode cL_word 228 = .ok (.iastore, 1) := by decide +kernel
set_option maxRecDepth 20000 in
theorem dL_word_229 : decode cL_word 229 = .ok (.aload_n 0, 1) := by decide +kernel
set_option maxRecDepth 20000 in
theorem dL_word_230 : decode cL_word 230 = .ok (.iload_n 3, 1) := by decide +kernel
set_option maxRecDepth 20000 in
theorem dL_word_231 : decode cL_word 231 = .ok (.iconst 1, 1) := by decide +kernel
set_option maxRecDepth 20000 in
theorem dL_word_232 : decode cL_word 232 = .ok (.isub, 1) := by decide +kernel
set_option maxRecDepth 20000 in
theorem dL_word_233 : decode cL_word 233 = .ok (.iconst 2, 1) := by decide +kernel
set_option maxRecDepth 20000 in
theorem dL_word_234 : decode cL_word 234 = .ok (.iastore, 1) := by decide +kernel
set_option maxRecDepth 20000 in
theorem dL_word_235 : decode cL_word 235 = .ok (.iconst 2, 1) := by decide +kernel
set_option maxRecDepth 20000 in
theorem dL_word_236 : decode cL_word 236 = .ok (.ireturn, 1) := by decide +kernel
set_option maxRecDepth 20000 in
theorem dL_spells_0 : decode cL_spells 0 = .ok (.iconst 0, 1) := by decide +kernel
set_option maxRecDepth 20000 in
theorem dL_spells_1 : decode cL_spells 1 = .ok (.istore_n 3, 1) := by decide +kernel
set_option maxRecDepth 20000 in
theorem dL_spells_2 : decode cL_spells 2 = .ok (.iload_n 3, 1) := by decide +kernel
set_option maxRecDepth 20000 in
theorem dL_spells_3 : decode cL_spells 3 = .ok (.aload_n 1, 1) := by decide +kernel
set_option maxRecDepth 20000 in
theorem dL_spells_4 : decode cL_spells 4 = .ok (.bipush 23, 2) := by decide +kernel
set_option maxRecDepth 20000 in
theorem dL_spells_6 : decode cL_spells 6 = .ok (.bipush 6, 2) := by decide +kernel
set_option maxRecDepth 20000 in
theorem dL_spells_8 : decode cL_spells 8 = .ok (.iload_n 2, 1) := by decide +kernel
set_option maxRecDepth 20000 in
theorem dL_spells_9 : decode cL_spells 9 = .ok (.imul, 1) := by decide +kernel
set_option maxRecDepth 20000 in
theorem dL_spells_10 : decode cL_spells 10 = .ok (.iadd, 1) := by decide +kernel
set_option maxRecDepth 20000 in
theorem dL_spells_11 : decode cL_spells 11 = .ok (.iaload, 1) := by decide +kernel
set_option maxRecDepth 20000 in
theorem dL_spells_12 : decode cL_spells 12 = .ok (.if_icmp .ge 28, 3) := by decide +kernel
set_option maxRecDepth 20000 in
theorem dL_spells_15 : decode cL_spells 15 = .ok (.aload_n 0, 1) := by decide +kernel
set_option maxRecDepth 20000 in
theorem dL_spells_16 : decode cL_spells 16 = .ok (.aload_n 1, 1) := by decide +kernel
set_option maxRecDepth 20000 in
theorem dL_spells_17 : decode cL_spells 17 = .ok (.bipush 24, 2) := by decide +kernel
set_option maxRecDepth 20000 in
theorem dL_spells_19 : decode cL_spells 19 = .ok (.bipush 6, 2) := by decide +kernel
set_option maxRecDepth 20000 in
theorem dL_spells_21 : decode cL_spells 21 = .ok (.iload_n 2, 1) := by decide +kernel
set_option maxRecDepth 20000 in
theorem dL_spells_22 : decode cL_spells 22 = .ok (.imul, 1) := by decide +kernel
set_option maxRecDepth 20000 in
theorem dL_spells_23 : decode cL_spells 23 = .ok (.iadd, 1) := by decide +kernel
set_option maxRecDepth 20000 in
theorem dL_spells_24 : decode cL_spells 24 = .ok (.iload_n 3, 1) := by decide +kernel
set_option maxRecDepth 20000 in
theorem dL_spells_25 : decode cL_spells 25 = .ok (.iadd, 1) := by decide +kernel
set_option maxRecDepth 20000 in
theorem dL_spells_26 : decode cL_spells 26 = .ok (.iaload, 1) := by decide +kernel
set_option maxRecDepth 20000 in
theorem dL_spells_27 : decode cL_spells 27 = .ok (.invokestatic 55, 3) := by decide +kernel
set_option maxRecDepth 20000 in
theorem dL_spells_30 : decode cL_spells 30 = .ok (.invokevirtual 58, 3) := by decide +kernel
set_option maxRecDepth 20000 in
theorem dL_spells_33 : decode cL_spells 33 = .ok (.pop, 1) := by decide +kernel
set_option maxRecDepth 20000 in
theorem dL_spells_34 : decode cL_spells 34 = .ok (.iinc 3 1, 3) := by decide +kernel
set_option maxRecDepth 20000 in
theorem dL_spells_37 : decode cL_spells 37 = .ok (.goto (-35), 3) := by decide +kernel
set_option maxRecDepth 20000 in
theorem dL_spells_40 : decode cL_spells 40 = .ok (.return_, 1) := by decide +kernel
set_option maxRecDepth 20000 in
theorem dL_begins_0 : decode cL_begins 0 = .ok (.aload_n 1, 1) := by decide +kernel
set_option maxRecDepth 20000 in
theorem dL_begins_1 : decode cL_begins 1 = .ok (.iconst 0, 1) := by decide +kernel
set_option maxRecDepth 20000 in
theorem dL_begins_2 : decode cL_begins 2 = .ok (.invokestatic 63, 3) := by decide +kernel
set_option maxRecDepth 20000 in
theorem dL_begins_5 : decode cL_begins 5 = .ok (.istore 4, 2) := by decide +kernel
set_option maxRecDepth 20000 in
theorem dL_begins_7 : decode cL_begins 7 = .ok (.iconst 0, 1) := by decide +kernel
set_option maxRecDepth 20000 in
theorem dL_begins_8 : decode cL_begins 8 = .ok (.istore 5, 2) := by decide +kernel
set_option maxRecDepth 20000 in
theorem dL_begins_10 : decode cL_begins 10 = .ok (.iload 5, 2) := by decide +kernel
set_option maxRecDepth 20000 in
theorem dL_begins_12 : decode cL_begins 12 = .ok (.bipush 52, 2) := by decide +kernel
set_option maxRecDepth 20000 in
theorem dL_begins_14 : decode cL_begins 14 = .ok (.if_icmp .ge 14, 3) := by decide +kernel
set_option maxRecDepth 20000 in
theorem dL_begins_17 : decode cL_begins 17 = .ok (.aload_n 2, 1) := by decide +kernel
set_option maxRecDepth 20000 in
theorem dL_begins_18 : decode cL_begins 18 = .ok (.iload 5, 2) := by decide +kernel
set_option maxRecDepth 20000 in
theorem dL_begins_20 : decode cL_begins 20 = .ok (.iconst 0, 1) := by decide +kernel
set_option maxRecDepth 20000 in
theorem dL_begins_21 : decode cL_begins 21 = .ok (.iastore, 1) := by decide +kernel
set_option maxRecDepth 20000 in
theorem dL_begins_22 : decode cL_begins 22 = .ok (.iinc 5 1, 3) := by decide +kernel
set_option maxRecDepth 20000 in
theorem dL_begins_25 : decode cL_begins 25 = .ok (.goto (-15), 3) := by decide +kernel
set_option maxRecDepth 20000 in
theorem dL_begins_28 : decode cL_begins 28 = .ok (.iconst 0, 1) := by decide +kernel
set_option maxRecDepth 20000 in
theorem dL_begins_29 : decode cL_begins 29 = .ok (.istore 5, 2) := by decide +kernel
set_option maxRecDepth 20000 in
theorem dL_begins_31 : decode cL_begins 31 = .ok (.iload 5, 2) := by decide +kernel
set_option maxRecDepth 20000 in
theorem dL_begins_33 : decode cL_begins 33 = .ok (.bipush 18, 2) := by decide +kernel
set_option maxRecDepth 20000 in
theorem dL_begins_35 : decode cL_begins 35 = .ok (.if_icmp .ge 14, 3) := by decide +kernel
set_option maxRecDepth 20000 in
theorem dL_begins_38 : decode cL_begins 38 = .ok (.aload_n 3, 1) := by decide +kernel
set_option maxRecDepth 20000 in
theorem dL_begins_39 : decode cL_begins 39 = .ok (.iload 5, 2) := by decide +kernel
set_option maxRecDepth 20000 in
theorem dL_begins_41 : decode cL_begins 41 = .ok (.iconst 0, 1) := by decide +kernel
set_option maxRecDepth 20000 in
theorem dL_begins_42 : decode cL_begins 42 = .ok (.iastore, 1) := by decide +kernel
set_option maxRecDepth 20000 in
theorem dL_begins_43 : decode cL_begins 43 = .ok (.iinc 5 1, 3) := by decide +kernel
set_option maxRecDepth 20000 in
theorem dL_begins_46 : decode cL_begins 46 = .ok (.goto (-15), 3) := by decide +kernel
set_option maxRecDepth 20000 in
theorem dL_begins_49 : decode cL_begins 49 = .ok (.aload_n 2, 1) := by decide +kernel
set_option maxRecDepth 20000 in
theorem dL_begins_50 : decode cL_begins 50 = .ok (.iconst 0, 1) := by decide +kernel
set_option maxRecDepth 20000 in
theorem dL_begins_51 : decode cL_begins 51 = .ok (.iconst 1, 1) := by decide +kernel
set_option maxRecDepth 20000 in
theorem dL_begins_52 : decode cL_begins 52 = .ok (.iload 4, 2) := by decide +kernel
set_option maxRecDepth 20000 in
theorem dL_begins_54 : decode cL_begins 54 = .ok (.iconst 5, 1) := by decide +kernel
set_option maxRecDepth 20000 in
theorem dL_begins_55 : decode cL_begins 55 = .ok (.invokestatic 46, 3) := by decide +kernel
set_option maxRecDepth 20000 in
theorem dL_begins_58 : decode cL_begins 58 = .ok (.iadd, 1) := by decide +kernel
set_option maxRecDepth 20000 in
theorem dL_begins_59 : decode cL_begins 59 = .ok (.iastore, 1) := by decide +kernel
set_option maxRecDepth 20000 in
theorem dL_begins_60 : decode cL_begins 60 = .ok (.aload_n 0, 1) := by decide +kernel
set_option maxRecDepth 20000 in
theorem dL_begins_61 : decode cL_begins 61 = .ok (.bipush 99, 2) := by decide +kernel
set_option maxRecDepth 20000 in
theorem dL_begins_63 : decode cL_begins 63 = .ok (.invokevirtual 58, 3) := by decide +kernel
set_option maxRecDepth 20000 in
theorem dL_begins_66 : decode cL_begins 66 = .ok (.pop, 1) := by decide +kernel
set_option maxRecDepth 20000 in
theorem dL_begins_67 : decode cL_begins 67 = .ok (.aload_n 0, 1) := by decide +kernel
set_option maxRecDepth 20000 in
theorem dL_begins_68 : decode cL_begins 68 = .ok (.bipush 48, 2) := by decide +kernel
set_option maxRecDepth 20000 in
theorem dL_begins_70 : decode cL_begins 70 = .ok (.aload_n 2, 1) := by decide +kernel
set_option maxRecDepth 20000 in
theorem dL_begins_71 : decode cL_begins 71 = .ok (.iconst 0, 1) := by decide +kernel
set_option maxRecDepth 20000 in
theorem dL_begins_72 : decode cL_begins 72 = .ok (.iaload, 1) := by decide +kernel
set_option maxRecDepth 20000 in
theorem dL_begins_73 : decode cL_begins 73 = .ok (.iadd, 1) := by decide +kernel
set_option maxRecDepth 20000 in
theorem dL_begins_74 : decode cL_begins 74 = .ok (.invokevirtual 58, 3) := by decide +kernel
set_option maxRecDepth 20000 in
theorem dL_begins_77 : decode cL_begins 77 = .ok (.pop, 1) := by decide +kernel
set_option maxRecDepth 20000 in
theorem dL_begins_78 : decode cL_begins 78 = .ok (.aload_n 0, 1) := by decide +kernel
set_option maxRecDepth 20000 in
theorem dL_begins_79 : decode cL_begins 79 = .ok (.bipush 59, 2) := by decide +kernel
set_option maxRecDepth 20000 in
theorem dL_begins_81 : decode cL_begins 81 = .ok (.invokevirtual 58, 3) := by decide +kernel
set_option maxRecDepth 20000 in
theorem dL_begins_84 : decode cL_begins 84 = .ok (.pop, 1) := by decide +kernel
set_option maxRecDepth 20000 in
theorem dL_begins_85 : decode cL_begins 85 = .ok (.iload 4, 2) := by decide +kernel
set_option maxRecDepth 20000 in
theorem dL_begins_87 : decode cL_begins 87 = .ok (.iconst 3, 1) := by decide +kernel
set_option maxRecDepth 20000 in
theorem dL_begins_88 : decode cL_begins 88 = .ok (.ishr, 1) := by decide +kernel
set_option maxRecDepth 20000 in
theorem dL_begins_89 : decode cL_begins 89 = .ok (.bipush 7, 2) := by decide +kernel
set_option maxRecDepth 20000 in
theorem dL_begins_91 : decode cL_begins 91 = .ok (.invokestatic 46, 3) := by decide +kernel
set_option maxRecDepth 20000 in
theorem dL_begins_94 : decode cL_begins 94 = .ok (.istore 5, 2) := by decide +kernel
set_option maxRecDepth 20000 in
theorem dL_begins_96 : decode cL_begins 96 = .ok (.iload 5, 2) := by decide +kernel
set_option maxRecDepth 20000 in
theorem dL_begins_98 : decode cL_begins 98 = .ok (.ifCond .le 122, 3) := by decide +kernel
set_option maxRecDepth 20000 in
theorem dL_begins_101 : decode cL_begins 101 = .ok (.aload_n 1, 1) := by decide +kernel
set_option maxRecDepth 20000 in
theorem dL_begins_102 : decode cL_begins 102 = .ok (.iload 5, 2) := by decide +kernel
set_option maxRecDepth 20000 in
theorem dL_begins_104 : decode cL_begins 104 = .ok (.invokestatic 63, 3) := by decide +kernel
set_option maxRecDepth 20000 in
theorem dL_begins_107 : decode cL_begins 107 = .ok (.istore 6, 2) := by decide +kernel
set_option maxRecDepth 20000 in
theorem dL_begins_109 : decode cL_begins 109 = .ok (.iconst 4, 1) := by decide +kernel
set_option maxRecDepth 20000 in
theorem dL_begins_110 : decode cL_begins 110 = .ok (.iconst 3, 1) := by decide +kernel
set_option maxRecDepth 20000 in
theorem dL_begins_111 : decode cL_begins 111 = .ok (.aload_n 2, 1) := by decide +kernel
set_option maxRecDepth 20000 in
theorem dL_begins_112 : decode cL_begins 112 = .ok (.iconst 1, 1) := by decide +kernel
set_option maxRecDepth 20000 in
theorem dL_begins_113 : decode cL_begins 113 = .ok (.iaload, 1) := by decide +kernel
set_option maxRecDepth 20000 in
theorem dL_begins_114 : decode cL_begins 114 = .ok (.imul, 1) := by decide +kernel
set_option maxRecDepth 20000 in
theorem dL_begins_115 : decode cL_begins 115 = .ok (.iadd, 1) := by decide +kernel
set_option maxRecDepth 20000 in
theorem dL_begins_116 : decode cL_begins 116 = .ok (.istore 7, 2) := by decide +kernel
set_option maxRecDepth 20000 in
theorem dL_begins_118 : decode cL_begins 118 = .ok (.aload_n 2, 1) := by decide +kernel
set_option maxRecDepth 20000 in
theorem dL_begins_119 : decode cL_begins 119 = .ok (.iload 7, 2) := by decide +kernel
set_option maxRecDepth 20000 in
theorem dL_begins_121 : decode cL_begins 121 = .ok (.iload 6, 2) := by decide +kernel
set_option maxRecDepth 20000 in
theorem dL_begins_123 : decode cL_begins 123 = .ok (.aload_n 2, 1) := by decide +kernel
set_option maxRecDepth 20000 in
theorem dL_begins_124 : decode cL_begins 124 = .ok (.iconst 0, 1) := by decide +kernel
set_option maxRecDepth 20000 in
theorem dL_begins_125 : decode cL_begins 125 = .ok (.iaload, 1) := by decide +kernel
set_option maxRecDepth 20000 in
theorem dL_begins_126 : decode cL_begins 126 = .ok (.invokestatic 46, 3) := by decide +kernel
set_option maxRecDepth 20000 in
theorem dL_begins_129 : decode cL_begins 129 = .ok (.iastore, 1) := by decide +kernel
set_option maxRecDepth 20000 in
theorem dL_begins_130 : decode cL_begins 130 = .ok (.aload_n 2, 1) := by decide +kernel
set_option maxRecDepth 20000 in
theorem dL_begins_131 : decode cL_begins 131 = .ok (.iload 7, 2) := by decide +kernel
set_option maxRecDepth 20000 in
theorem dL_begins_133 : decode cL_begins 133 = .ok (.iconst 1, 1) := by decide +kernel
set_option maxRecDepth 20000 in
theorem dL_begins_134 : decode cL_begins 134 = .ok (.iadd, 1) := by decide +kernel
set_option maxRecDepth 20000 in
theorem dL_begins_135 : decode cL_begins 135 = .ok (.iload 6, 2) := by decide +kernel
set_option maxRecDepth 20000 in
theorem dL_begins_137 : decode cL_begins 137 = .ok (.iconst 3, 1) := by decide +kernel
set_option maxRecDepth 20000 in
theorem dL_begins_138 : decode cL_begins 138 = .ok (.ishr, 1) := by decide +kernel
set_option maxRecDepth 20000 in
theorem dL_begins_139 : decode cL_begins 139 = .ok (.aload_n 2, 1) := by decide +kernel
set_option maxRecDepth 20000 in
theorem dL_begins_140 : decode cL_begins 140 = .ok (.iconst 0, 1) := by decide +kernel
set_option maxRecDepth 20000 in
theorem dL_begins_141 : decode cL_begins 141 = .ok (.iaload, 1) := by decide +kernel
set_option maxRecDepth 20000 in
theorem dL_begins_142 : decode cL_begins 142 = .ok (.invokestatic 46, 3) := by decide +kernel
set_option maxRecDepth 20000 in
theorem dL_begins_145 : decode cL_begins 145 = .ok (.iastore, 1) := by decide +kernel
set_option maxRecDepth 20000 in
theorem dL_begins_146 : decode cL_begins 146 = .ok (.aload_n 2, 1) := by decide +kernel
set_option maxRecDepth 20000 in
theorem dL_begins_147 : decode cL_begins 147 = .ok (.iload 7, 2) := by decide +kernel
set_option maxRecDepth 20000 in
theorem dL_begins_149 : decode cL_begins 149 = .ok (.iconst 2, 1) := by decide +kernel
set_option maxRecDepth 20000 in
theorem dL_begins_150 : decode cL_begins 150 = .ok (.iadd, 1) := by decide +kernel
set_option maxRecDepth 20000 in
theorem dL_begins_151 : decode cL_begins 151 = .ok (.iconst 1, 1) := by decide +kernel
set_option maxRecDepth 20000 in
theorem dL_begins_152 : decode cL_begins 152 = .ok (.iload 6, 2) := by decide +kernel
set_option maxRecDepth 20000 in
theorem dL_begins_154 : decode cL_begins 154 = .ok (.bipush 6, 2) := by decide +kernel
set_option maxRecDepth 20000 in
theorem dL_begins_156 : decode cL_begins 156 = .ok (.ishr, 1) := by decide +kernel
set_option maxRecDepth 20000 in
theorem dL_begins_157 : decode cL_begins 157 = .ok (.iconst 3, 1) := by decide +kernel
set_option maxRecDepth 20000 in
theorem dL_begins_158 : decode cL_begins 158 = .ok (.invokestatic 46, 3) := by decide +kernel
set_option maxRecDepth 20000 in
theorem dL_begins_161 : decode cL_begins 161 = .ok (.iadd, 1) := by decide +kernel
set_option maxRecDepth 20000 in
theorem dL_begins_162 : decode cL_begins 162 = .ok (.iastore, 1) := by decide +kernel
set_option maxRecDepth 20000 in
theorem dL_begins_163 : decode cL_begins 163 = .ok (.aload_n 2, 1) := by decide +kernel
set_option maxRecDepth 20000 in
theorem dL_begins_164 : decode cL_begins 164 = .ok (.iconst 1, 1) := by decide +kernel
set_option maxRecDepth 20000 in
theorem dL_begins_165 : decode cL_begins 165 = .ok (.dup2, 1) := by decide +kernel
set_option maxRecDepth 20000 in
theorem dL_begins_166 : decode cL_begins 166 = .ok (.iaload, 1) := by decide +kernel
set_option maxRecDepth 20000 in
theorem dL_begins_167 : decode cL_begins 167 = .ok (.iconst 1, 1) := by decide +kernel
set_option maxRecDepth 20000 in
theorem dL_begins_168 : decode cL_begins 168 = .ok (.iadd, 1) := by decide +kernel
set_option maxRecDepth 20000 in
theorem dL_begins_169 : decode cL_begins 169 = .ok (.iastore, 1) := by decide +kernel
set_option maxRecDepth 20000 in
theorem dL_begins_170 : decode cL_begins 170 = .ok (.aload_n 0, 1) := by decide +kernel
set_option maxRecDepth 20000 in
theorem dL_begins_171 : decode cL_begins 171 = .ok (.bipush 101, 2) := by decide +kernel
set_option maxRecDepth 20000 in
theorem dL_begins_173 : decode cL_begins 173 = .ok (.invokevirtual 58, 3) := by decide +kernel
set_option maxRecDepth 20000 in
theorem dL_begins_176 : decode cL_begins 176 = .ok (.pop, 1) := by decide +kernel
set_option maxRecDepth 20000 in
theorem dL_begins_177 : decode cL_begins 177 = .ok (.iconst 0, 1) := by decide +kernel
set_option maxRecDepth 20000 in
theorem dL_begins_178 : decode cL_begins 178 = .ok (.istore 8, 2) := by decide +kernel
set_option maxRecDepth 20000 in
theorem dL_begins_180 : decode cL_begins 180 = .ok (.iload 8, 2) := by decide +kernel
set_option maxRecDepth 20000 in
theorem dL_begins_182 : decode cL_begins 182 = .ok (.iconst 3, 1) := by decide +kernel
set_option maxRecDepth 20000 in
theorem dL_begins_183 : decode cL_begins 183 = .ok (.if_icmp .ge 24, 3) := by decide +kernel
set_option maxRecDepth 20000 in
theorem dL_begins_186 : decode cL_begins 186 = .ok (.aload_n 0, 1) := by decide +kernel
set_option maxRecDepth 20000 in
theorem dL_begins_187 : decode cL_begins 187 = .ok (.bipush 48, 2) := by decide +kernel
set_option maxRecDepth 20000 in
theorem dL_begins_189 : decode cL_begins 189 = .ok (.aload_n 2, 1) := by decide +kernel
set_option maxRecDepth 20000 in
theorem dL_begins_190 : decode cL_begins 190 = .ok (.iload 7, 2) := by decide +kernel
set_option maxRecDepth 20000 in
theorem dL_begins_192 : decode cL_begins 192 = .ok (.iload 8, 2) := by decide +kernel
set_option maxRecDepth 20000 in
theorem dL_begins_194 : decode cL_begins 194 = .ok (.iadd, 1) := by decide +kernel
set_option maxRecDepth 20000 in
theorem dL_begins_195 : decode cL_begins 195 = .ok (.iaload, 1) := by decide +kernel
set_option maxRecDepth 20000 in
theorem dL_begins_196 : decode cL_begins 196 = .ok (.iadd, 1) := by decide +kernel
set_option maxRecDepth 20000 in
theorem dL_begins_197 : decode cL_begins 197 = .ok (.invokevirtual 58, 3) := by decide +kernel
set_option maxRecDepth 20000 in
theorem dL_begins_200 : decode cL_begins 200 = .ok (.pop, 1) := by decide +kernel
set_option maxRecDepth 20000 in
theorem dL_begins_201 : decode cL_begins 201 = .ok (.iinc 8 1, 3) := by decide +kernel
set_option maxRecDepth 20000 in
theorem dL_begins_204 : decode cL_begins 204 = .ok (.goto (-24), 3) := by decide +kernel
set_option maxRecDepth 20000 in
theorem dL_begins_207 : decode cL_begins 207 = .ok (.aload_n 0, 1) := by decide +kernel
set_option maxRecDepth 20000 in
theorem dL_begins_208 : decode cL_begins 208 = .ok (.bipush 59, 2) := by decide +kernel
set_option maxRecDepth 20000 in
theorem dL_begins_210 : decode cL_begins 210 = .ok (.invokevirtual 58, 3) := by decide +kernel
set_option maxRecDepth 20000 in
theorem dL_begins_213 : decode cL_begins 213 = .ok (.pop, 1) := by decide +kernel
set_option maxRecDepth 20000 in
theorem dL_begins_214 : decode cL_begins 214 = .ok (.iinc 5 (-1), 3) := by decide +kernel
set_option maxRecDepth 20000 in
theorem dL_begins_217 : decode cL_begins 217 = .ok (.goto (-121), 3) := by decide +kernel
set_option maxRecDepth 20000 in
theorem dL_begins_220 : decode cL_begins 220 = .ok (.aload_n 2, 1) := by decide +kernel
set_option maxRecDepth 20000 in
theorem dL_begins_221 : decode cL_begins 221 = .ok (.iconst 1, 1) := by decide +kernel
set_option maxRecDepth 20000 in
theorem dL_begins_222 : decode cL_begins 222 = .ok (.iaload, 1) := by decide +kernel
set_option maxRecDepth 20000 in
theorem dL_begins_223 : decode cL_begins 223 = .ok (.ifCond .ne 7, 3) := by decide +kernel
set_option maxRecDepth 20000 in
theorem dL_begins_226 : decode cL_begins 226 = .ok (.iconst 0, 1) := by decide +kernel
set_option maxRecDepth 20000 in
theorem dL_begins_227 : decode cL_begins 227 = .ok (.goto 12, 3) := by decide +kernel
set_option maxRecDepth 20000 in
theorem dL_begins_230 : decode cL_begins 230 = .ok (.iload 4, 2) := by decide +kernel
set_option maxRecDepth 20000 in
theorem dL_begins_232 : decode cL_begins 232 = .ok (.bipush 7, 2) := by decide +kernel
set_option maxRecDepth 20000 in
theorem dL_begins_234 : decode cL_begins 234 = .ok (.ishr, 1) := by decide +kernel
set_option maxRecDepth 20000 in
theorem dL_begins_235 : decode cL_begins 235 = .ok (.iconst 5, 1) := by decide +kernel
set_option maxRecDepth 20000 in
theorem dL_begins_236 : decode cL_begins 236 = .ok (.invokestatic 46, 3) := by decide +kernel
set_option maxRecDepth 20000 in
theorem dL_begins_239 : decode cL_begins 239 = .ok (.istore 5, 2) := by decide +kernel
set_option maxRecDepth 20000 in
theorem dL_begins_241 : decode cL_begins 241 = .ok (.iload 5, 2) := by decide +kernel
set_option maxRecDepth 20000 in
theorem dL_begins_243 : decode cL_begins 243 = .ok (.ifCond .le 102, 3) := by decide +kernel
set_option maxRecDepth 20000 in
theorem dL_begins_246 : decode cL_begins 246 = .ok (.aload_n 1, 1) := by decide +kernel
set_option maxRecDepth 20000 in
theorem dL_begins_247 : decode cL_begins 247 = .ok (.bipush 6, 2) := by decide +kernel
set_option maxRecDepth 20000 in
theorem dL_begins_249 : decode cL_begins 249 = .ok (.iload 5, 2) := by decide +kernel
set_option maxRecDepth 20000 in
theorem dL_begins_251 : decode cL_begins 251 = .ok (.iadd, 1) := by decide +kernel
set_option maxRecDepth 20000 in
theorem dL_begins_252 : decode cL_begins 252 = .ok (.invokestatic 63, 3) := by decide +kernel
set_option maxRecDepth 20000 in
theorem dL_begins_255 : decode cL_begins 255 = .ok (.istore 6, 2) := by decide +kernel
set_option maxRecDepth 20000 in
theorem dL_begins_257 : decode cL_begins 257 = .ok (.bipush 22, 2) := by decide +kernel
set_option maxRecDepth 20000 in
theorem dL_begins_259 : decode cL_begins 259 = .ok (.bipush 6, 2) := by decide +kernel
set_option maxRecDepth 20000 in
theorem dL_begins_261 : decode cL_begins 261 = .ok (.aload_n 2, 1) := by decide +kernel
set_option maxRecDepth 20000 in
theorem dL_begins_262 : decode cL_begins 262 = .ok (.iconst 2, 1) := by decide +kernel
set_option maxRecDepth 20000 in
theorem dL_begins_263 : decode cL_begins 263 = .ok (.iaload, 1) := by decide +kernel
set_option maxRecDepth 20000 in
theorem dL_begins_264 : decode cL_begins 264 = .ok (.imul, 1) := by decide +kernel
set_option maxRecDepth 20000 in
theorem dL_begins_265 : decode cL_begins 265 = .ok (.iadd, 1) := by decide +kernel
set_option maxRecDepth 20000 in
theorem dL_begins_266 : decode cL_begins 266 = .ok (.istore 7, 2) := by decide +kernel
set_option maxRecDepth 20000 in
theorem dL_begins_268 : decode cL_begins 268 = .ok (.aload_n 2, 1) := by decide +kernel
set_option maxRecDepth 20000 in
theorem dL_begins_269 : decode cL_begins 269 = .ok (.iload 7, 2) := by decide +kernel
set_option maxRecDepth 20000 in
theorem dL_begins_271 : decode cL_begins 271 = .ok (.iconst 1, 1) := by decide +kernel
set_option maxRecDepth 20000 in
theorem dL_begins_272 : decode cL_begins 272 = .ok (.iload 6, 2) := by decide +kernel
set_option maxRecDepth 20000 in
theorem dL_begins_274 : decode cL_begins 274 = .ok (.bipush 20, 2) := by decide +kernel
set_option maxRecDepth 20000 in
theorem dL_begins_276 : decode cL_begins 276 = .ok (.ishr, 1) := by decide +kernel
set_option maxRecDepth 20000 in
theorem dL_begins_277 : decode cL_begins 277 = .ok (.iconst 3, 1) := by decide +kernel
set_option maxRecDepth 20000 in
theorem dL_begins_278 : decode cL_begins 278 = .ok (.invokestatic 46, 3) := by decide +kernel
set_option maxRecDepth 20000 in
theorem dL_begins_281 : decode cL_begins 281 = .ok (.iadd, 1) := by decide +kernel
set_option maxRecDepth 20000 in
theorem dL_begins_282 : decode cL_begins 282 = .ok (.iastore, 1) := by decide +kernel
set_option maxRecDepth 20000 in
theorem dL_begins_283 : decode cL_begins 283 = .ok (.aload_n 2, 1) := by decide +kernel
set_option maxRecDepth 20000 in
theorem dL_begins_284 : decode cL_begins 284 = .ok (.iload 7, 2) := by decide +kernel
set_option maxRecDepth 20000 in
theorem dL_begins_286 : decode cL_begins 286 = .ok (.iconst 1, 1) := by decide +kernel
set_option maxRecDepth 20000 in
theorem dL_begins_287 : decode cL_begins 287 = .ok (.iadd, 1) := by decide +kernel
set_option maxRecDepth 20000 in
theorem dL_begins_288 : decode cL_begins 288 = .ok (.aload_n 2, 1) := by decide +kernel
set_option maxRecDepth 20000 in
theorem dL_begins_289 : decode cL_begins 289 = .ok (.aload_n 2, 1) := by decide +kernel
set_option maxRecDepth 20000 in
theorem dL_begins_290 : decode cL_begins 290 = .ok (.iconst 2, 1) := by decide +kernel
set_option maxRecDepth 20000 in
theorem dL_begins_291 : decode cL_begins 291 = .ok (.iaload, 1) := by decide +kernel
set_option maxRecDepth 20000 in
theorem dL_begins_292 : decode cL_begins 292 = .ok (.iload 6, 2) := by decide +kernel
set_option maxRecDepth 20000 in
theorem dL_begins_294 : decode cL_begins 294 = .ok (.invokestatic 66, 3) := by decide +kernel
set_option maxRecDepth 20000 in
theorem dL_begins_297 : decode cL_begins 297 = .ok (.iastore, 1) := by decide +kernel
set_option maxRecDepth 20000 in
theorem dL_begins_298 : decode cL_begins 298 = .ok (.aload_n 0, 1) := by decide +kernel
set_option maxRecDepth 20000 in
theorem dL_begins_299 : decode cL_begins 299 = .ok (.bipush 102, 2) := by decide +kernel
set_option maxRecDepth 20000 in
theorem dL_begins_301 : decode cL_begins 301 = .ok (.invokevirtual 58, 3) := by decide +kernel
set_option maxRecDepth 20000 in
theorem dL_begins_304 : decode cL_begins 304 = .ok (.pop, 1) := by decide +kernel
set_option maxRecDepth 20000 in
theorem dL_begins_305 : decode cL_begins 305 = .ok (.aload_n 0, 1) := by decide +kernel
set_option maxRecDepth 20000 in
theorem dL_begins_306 : decode cL_begins 306 = .ok (.bipush 48, 2) := by decide +kernel
set_option maxRecDepth 20000 in
theorem dL_begins_308 : decode cL_begins 308 = .ok (.aload_n 2, 1) := by decide +kernel
set_option maxRecDepth 20000 in
theorem dL_begins_309 : decode cL_begins 309 = .ok (.iload 7, 2) := by decide +kernel
set_option maxRecDepth 20000 in
theorem dL_begins_311 : decode cL_begins 311 = .ok (.iaload, 1) := by decide +kernel
set_option maxRecDepth 20000 in
theorem dL_begins_312 : decode cL_begins 312 = .ok (.iadd, 1) := by decide +kernel
set_option maxRecDepth 20000 in
theorem dL_begins_313 : decode cL_begins 313 = .ok (.invokevirtual 58, 3) := by decide +kernel
set_option maxRecDepth 20000 in
theorem dL_begins_316 : decode cL_begins 316 = .ok (.pop, 1) := by decide +kernel
set_option maxRecDepth 20000 in
theorem dL_begins_317 : decode cL_begins 317 = .ok (.aload_n 0, 1) := by decide +kernel
set_option maxRecDepth 20000 in
theorem dL_begins_318 : decode cL_begins 318 = .ok (.aload_n 2, 1) := by decide +kernel
set_option maxRecDepth 20000 in
theorem dL_begins_319 : decode cL_begins 319 = .ok (.aload_n 2, 1) := by decide +kernel
set_option maxRecDepth 20000 in
theorem dL_begins_320 : decode cL_begins 320 = .ok (.iconst 2, 1) := by decide +kernel
set_option maxRecDepth 20000 in
theorem dL_begins_321 : decode cL_begins 321 = .ok (.iaload, 1) := by decide +kernel
set_option maxRecDepth 20000 in
theorem dL_begins_322 : decode cL_begins 322 = .ok (.invokestatic 69, 3) := by decide +kernel
set_option maxRecDepth 20000 in
theorem dL_begins_325 : decode cL_begins 325 = .ok (.aload_n 0, 1) := by decide +kernel
set_option maxRecDepth 20000 in
theorem dL_begins_326 : decode cL_begins 326 = .ok (.bipush 59, 2) := by decide +kernel
set_option maxRecDepth 20000 in
theorem dL_begins_328 : decode cL_begins 328 = .ok (.invokevirtual 58, 3) := by decide +kernel
set_option maxRecDepth 20000 in
theorem dL_begins_331 : decode cL_begins 331 = .ok (.pop, 1) := by decide +kernel
set_option maxRecDepth 20000 in
theorem dL_begins_332 : decode cL_begins 332 = .ok (.aload_n 2, 1) := by decide +kernel
set_option maxRecDepth 20000 in
theorem dL_begins_333 : decode cL_begins 333 = .ok (.iconst 2, 1) := by decide +kernel
set_option maxRecDepth 20000 in
theorem dL_begins_334 : decode cL_begins 334 = .ok (.dup2, 1) := by decide +kernel
set_option maxRecDepth 20000 in
theorem dL_begins_335 : decode cL_begins 335 = .ok (.iaload, 1) := by decide +kernel
set_option maxRecDepth 20000 in
theorem dL_begins_336 : decode cL_begins 336 = .ok (.iconst 1, 1) := by decide +kernel
set_option maxRecDepth 20000 in
theorem dL_begins_337 : decode cL_begins 337 = .ok (.iadd, 1) := by decide +kernel
set_option maxRecDepth 20000 in
theorem dL_begins_338 : decode cL_begins 338 = .ok (.iastore, 1) := by decide +kernel
set_option maxRecDepth 20000 in
theorem dL_begins_339 : decode cL_begins 339 = .ok (.iinc 5 (-1), 3) := by decide +kernel
set_option maxRecDepth 20000 in
theorem dL_begins_342 : decode cL_begins 342 = .ok (.goto (-101), 3) := by decide +kernel
set_option maxRecDepth 20000 in
theorem dL_begins_345 : decode cL_begins 345 = .ok (.return_, 1) := by decide +kernel
set_option maxRecDepth 20000 in
theorem dL_told_0 : decode cL_told 0 = .ok (.aload_n 0, 1) := by decide +kernel
set_option maxRecDepth 20000 in
theorem dL_told_1 : decode cL_told 1 = .ok (.iconst 0, 1) := by decide +kernel
set_option maxRecDepth 20000 in
theorem dL_told_2 : decode cL_told 2 = .ok (.invokevirtual 73, 3) := by decide +kernel
set_option maxRecDepth 20000 in
theorem dL_told_5 : decode cL_told 5 = .ok (.aload_n 1, 1) := by decide +kernel
set_option maxRecDepth 20000 in
theorem dL_told_6 : decode cL_told 6 = .ok (.iconst 0, 1) := by decide +kernel
set_option maxRecDepth 20000 in
theorem dL_told_7 : decode cL_told 7 = .ok (.iaload, 1) := by decide +kernel
set_option maxRecDepth 20000 in
theorem dL_told_8 : decode cL_told 8 = .ok (.if_icmp .ne 76, 3) := by decide +kernel
set_option maxRecDepth 20000 in
theorem dL_told_11 : decode cL_told 11 = .ok (.aload_n 0, 1) := by decide +kernel
set_option maxRecDepth 20000 in
theorem dL_told_12 : decode cL_told 12 = .ok (.iconst 1, 1) := by decide +kernel
set_option maxRecDepth 20000 in
theorem dL_told_13 : decode cL_told 13 = .ok (.invokevirtual 73, 3) := by decide +kernel
set_option maxRecDepth 20000 in
theorem dL_told_16 : decode cL_told 16 = .ok (.aload_n 1, 1) := by decide +kernel
set_option maxRecDepth 20000 in
theorem dL_told_17 : decode cL_told 17 = .ok (.iconst 1, 1) := by decide +kernel
set_option maxRecDepth 20000 in
theorem dL_told_18 : decode cL_told 18 = .ok (.iaload, 1) := by decide +kernel
set_option maxRecDepth 20000 in
theorem dL_told_19 : decode cL_told 19 = .ok (.if_icmp .ne 65, 3) := by decide +kernel
set_option maxRecDepth 20000 in
theorem dL_told_22 : decode cL_told 22 = .ok (.aload_n 0, 1) := by decide +kernel
set_option maxRecDepth 20000 in
theorem dL_told_23 : decode cL_told 23 = .ok (.iconst 2, 1) := by decide +kernel
set_option maxRecDepth 20000 in
theorem dL_told_24 : decode cL_told 24 = .ok (.invokevirtual 73, 3) := by decide +kernel
set_option maxRecDepth 20000 in
theorem dL_told_27 : decode cL_told 27 = .ok (.aload_n 1, 1) := by decide +kernel
set_option maxRecDepth 20000 in
theorem dL_told_28 : decode cL_told 28 = .ok (.iconst 2, 1) := by decide +kernel
set_option maxRecDepth 20000 in
theorem dL_told_29 : decode cL_told 29 = .ok (.iaload, 1) := by decide +kernel
set_option maxRecDepth 20000 in
theorem dL_told_30 : decode cL_told 30 = .ok (.if_icmp .ne 54, 3) := by decide +kernel
set_option maxRecDepth 20000 in
theorem dL_told_33 : decode cL_told 33 = .ok (.aload_n 0, 1) := by decide +kernel
set_option maxRecDepth 20000 in
theorem dL_told_34 : decode cL_told 34 = .ok (.iconst 3, 1) := by decide +kernel
set_option maxRecDepth 20000 in
theorem dL_told_35 : decode cL_told 35 = .ok (.invokevirtual 73, 3) := by decide +kernel
set_option maxRecDepth 20000 in
theorem dL_told_38 : decode cL_told 38 = .ok (.aload_n 1, 1) := by decide +kernel
set_option maxRecDepth 20000 in
theorem dL_told_39 : decode cL_told 39 = .ok (.iconst 3, 1) := by decide +kernel
set_option maxRecDepth 20000 in
theorem dL_told_40 : decode cL_told 40 = .ok (.iaload, 1) := by decide +kernel
set_option maxRecDepth 20000 in
theorem dL_told_41 : decode cL_told 41 = .ok (.if_icmp .ne 43, 3) := by decide +kernel
set_option maxRecDepth 20000 in
theorem dL_told_44 : decode cL_told 44 = .ok (.aload_n 0, 1) := by decide +kernel
set_option maxRecDepth 20000 in
theorem dL_told_45 : decode cL_told 45 = .ok (.iconst 4, 1) := by decide +kernel
set_option maxRecDepth 20000 in
theorem dL_told_46 : decode cL_told 46 = .ok (.invokevirtual 73, 3) := by decide +kernel
set_option maxRecDepth 20000 in
theorem dL_told_49 : decode cL_told 49 = .ok (.ifCond .ne 35, 3) := by decide +kernel
set_option maxRecDepth 20000 in
theorem dL_told_52 : decode cL_told 52 = .ok (.aload_n 0, 1) := by decide +kernel
set_option maxRecDepth 20000 in
theorem dL_told_53 : decode cL_told 53 = .ok (.iconst 1, 1) := by decide +kernel
set_option maxRecDepth 20000 in
theorem dL_told_54 : decode cL_told 54 = .ok (.aload_n 1, 1) := by decide +kernel
set_option maxRecDepth 20000 in
theorem dL_told_55 : decode cL_told 55 = .ok (.iconst 0, 1) := by decide +kernel
set_option maxRecDepth 20000 in
theorem dL_told_56 : decode cL_told 56 = .ok (.iaload, 1) := by decide +kernel
set_option maxRecDepth 20000 in
theorem dL_told_57 : decode cL_told 57 = .ok (.iconst 0, 1) := by decide +kernel
set_option maxRecDepth 20000 in
theorem dL_told_58 : decode cL_told 58 = .ok (.invokevirtual 76, 3) := by decide +kernel
set_option maxRecDepth 20000 in
theorem dL_told_61 : decode cL_told 61 = .ok (.ldc 80, 2) := by decide +kernel
set_option maxRecDepth 20000 in
theorem dL_told_63 : decode cL_told 63 = .ok (.if_icmp .ne 21, 3) := by decide +kernel
set_option maxRecDepth 20000 in
theorem dL_told_66 : decode cL_told 66 = .ok (.aload_n 0, 1) := by decide +kernel
set_option maxRecDepth 20000 in
theorem dL_told_67 : decode cL_told 67 = .ok (.iconst 2, 1) := by decide +kernel
set_option maxRecDepth 20000 in
theorem dL_told_68 : decode cL_told 68 = .ok (.iconst 0, 1) := by decide +kernel
set_option maxRecDepth 20000 in
theorem dL_told_69 : decode cL_told 69 = .ok (.aload_n 1, 1) := by decide +kernel
set_option maxRecDepth 20000 in
theorem dL_told_70 : decode cL_told 70 = .ok (.iconst 2, 1) := by decide +kernel
set_option maxRecDepth 20000 in
theorem dL_told_71 : decode cL_told 71 = .ok (.iaload, 1) := by decide +kernel
set_option maxRecDepth 20000 in
theorem dL_told_72 : decode cL_told 72 = .ok (.invokevirtual 76, 3) := by decide +kernel
set_option maxRecDepth 20000 in
theorem dL_told_75 : decode cL_told 75 = .ok (.ldc 80, 2) := by decide +kernel
set_option maxRecDepth 20000 in
theorem dL_told_77 : decode cL_told 77 = .ok (.if_icmp .ne 7, 3) := by decide +kernel
set_option maxRecDepth 20000 in
theorem dL_told_80 : decode cL_told 80 = .ok (.iconst 1, 1) := by decide +kernel
set_option maxRecDepth 20000 in
theorem dL_told_81 : decode cL_told 81 = .ok (.goto 4, 3) := by decide +kernel
set_option maxRecDepth 20000 in
theorem dL_told_84 : decode cL_told 84 = .ok (.iconst 0, 1) := by decide +kernel
set_option maxRecDepth 20000 in
theorem dL_told_85 : decode cL_told 85 = .ok (.istore_n 3, 1) := by decide +kernel
set_option maxRecDepth 20000 in
theorem dL_told_86 : decode cL_told 86 = .ok (.iconst 0, 1) := by decide +kernel
set_option maxRecDepth 20000 in
theorem dL_told_87 : decode cL_told 87 = .ok (.istore 4, 2) := by decide +kernel
set_option maxRecDepth 20000 in
theorem dL_told_89 : decode cL_told 89 = .ok (.iload 4, 2) := by decide +kernel
set_option maxRecDepth 20000 in
theorem dL_told_91 : decode cL_told 91 = .ok (.aload_n 1, 1) := by decide +kernel
set_option maxRecDepth 20000 in
theorem dL_told_92 : decode cL_told 92 = .ok (.iconst 1, 1) := by decide +kernel
set_option maxRecDepth 20000 in
theorem dL_told_93 : decode cL_told 93 = .ok (.iaload, 1) := by decide +kernel
set_option maxRecDepth 20000 in
theorem dL_told_94 : decode cL_told 94 = .ok (.if_icmp .ge 277, 3) := by decide +kernel
set_option maxRecDepth 20000 in
theorem dL_told_97 : decode cL_told 97 = .ok (.iload_n 3, 1) := by decide +kernel
set_option maxRecDepth 20000 in
theorem dL_told_98 : decode cL_told 98 = .ok (.ifCond .eq 273, 3) := by decide +kernel
set_option maxRecDepth 20000 in
theorem dL_told_101 : decode cL_told 101 = .ok (.aload_n 1, 1) := by decide +kernel
set_option maxRecDepth 20000 in
theorem dL_told_102 : decode cL_told 102 = .ok (.iconst 4, 1) := by decide +kernel
set_option maxRecDepth 20000 in
theorem dL_told_103 : decode cL_told 103 = .ok (.iconst 3, 1) := by decide +kernel
set_option maxRecDepth 20000 in
theorem dL_told_104 : decode cL_told 104 = .ok (.iload 4, 2) := by decide +kernel
set_option maxRecDepth 20000 in
theorem dL_told_106 : decode cL_told 106 = .ok (.imul, 1) := by decide +kernel
set_option maxRecDepth 20000 in
theorem dL_told_107 : decode cL_told 107 = .ok (.iadd, 1) := by decide +kernel
set_option maxRecDepth 20000 in
theorem dL_told_108 : decode cL_told 108 = .ok (.iaload, 1) := by decide +kernel
set_option maxRecDepth 20000 in
theorem dL_told_109 : decode cL_told 109 = .ok (.aload_n 1, 1) := by decide +kernel
set_option maxRecDepth 20000 in
theorem dL_told_110 : decode cL_told 110 = .ok (.iconst 5, 1) := by decide +kernel
set_option maxRecDepth 20000 in
theorem dL_told_111 : decode cL_told 111 = .ok (.iconst 3, 1) := by decide +kernel
set_option maxRecDepth 20000 in
theorem dL_told_112 : decode cL_told 112 = .ok (.iload 4, 2) := by decide +kernel
set_option maxRecDepth 20000 in
theorem dL_told_114 : decode cL_told 114 = .ok (.imul, 1) := by decide +kernel
set_option maxRecDepth 20000 in
theorem dL_told_115 : decode cL_told 115 = .ok (.iadd, 1) := by decide +kernel
set_option maxRecDepth 20000 in
theorem dL_told_116 : decode cL_told 116 = .ok (.iaload, 1) := by decide +kernel
set_option maxRecDepth 20000 in
theorem dL_told_117 : decode cL_told 117 = .ok (.if_icmp .ne 7, 3) := by decide +kernel
set_option maxRecDepth 20000 in
theorem dL_told_120 : decode cL_told 120 = .ok (.iconst 1, 1) := by decide +kernel
set_option maxRecDepth 20000 in
theorem dL_told_121 : decode cL_told 121 = .ok (.goto 4, 3) := by decide +kernel
set_option maxRecDepth 20000 in
theorem dL_told_124 : decode cL_told 124 = .ok (.iconst 0, 1) := by decide +kernel
set_option maxRecDepth 20000 in
theorem dL_told_125 : decode cL_told 125 = .ok (.istore 5, 2) := by decide +kernel
set_option maxRecDepth 20000 in
theorem dL_told_127 : decode cL_told 127 = .ok (.aload_n 0, 1) := by decide +kernel
set_option maxRecDepth 20000 in
theorem dL_told_128 : decode cL_told 128 = .ok (.iconst 1, 1) := by decide +kernel
set_option maxRecDepth 20000 in
theorem dL_told_129 : decode cL_told 129 = .ok (.iload 4, 2) := by decide +kernel
set_option maxRecDepth 20000 in
theorem dL_told_131 : decode cL_told 131 = .ok (.iconst 0, 1) := by decide +kernel
set_option maxRecDepth 20000 in
theorem dL_told_132 : decode cL_told 132 = .ok (.invokevirtual 81, 3) := by decide +kernel
set_option maxRecDepth 20000 in
theorem dL_told_135 : decode cL_told 135 = .ok (.aload_n 1, 1) := by decide +kernel
set_option maxRecDepth 20000 in
theorem dL_told_136 : decode cL_told 136 = .ok (.bipush 6, 2) := by decide +kernel
set_option maxRecDepth 20000 in
theorem dL_told_138 : decode cL_told 138 = .ok (.iconst 3, 1) := by decide +kernel
set_option maxRecDepth 20000 in
theorem dL_told_139 : decode cL_told 139 = .ok (.iload 4, 2) := by decide +kernel
set_option maxRecDepth 20000 in
theorem dL_told_141 : decode cL_told 141 = .ok (.imul, 1) := by decide +kernel
set_option maxRecDepth 20000 in
theorem dL_told_142 : decode cL_told 142 = .ok (.iadd, 1) := by decide +kernel
set_option maxRecDepth 20000 in
theorem dL_told_143 : decode cL_told 143 = .ok (.iaload, 1) := by decide +kernel
set_option maxRecDepth 20000 in
theorem dL_told_144 : decode cL_told 144 = .ok (.if_icmp .ne 59, 3) := by decide +kernel
set_option maxRecDepth 20000 in
theorem dL_told_147 : decode cL_told 147 = .ok (.aload_n 0, 1) := by decide +kernel
set_option maxRecDepth 20000 in
theorem dL_told_148 : decode cL_told 148 = .ok (.iconst 1, 1) := by decide +kernel
set_option maxRecDepth 20000 in
theorem dL_told_149 : decode cL_told 149 = .ok (.iload 4, 2) := by decide +kernel
set_option maxRecDepth 20000 in
theorem dL_told_151 : decode cL_told 151 = .ok (.iconst 1, 1) := by decide +kernel
set_option maxRecDepth 20000 in
theorem dL_told_152 : decode cL_told 152 = .ok (.invokevirtual 81, 3) := by decide +kernel
set_option maxRecDepth 20000 in
theorem dL_told_155 : decode cL_told 155 = .ok (.aload_n 1, 1) := by decide +kernel
set_option maxRecDepth 20000 in
theorem dL_told_156 : decode cL_told 156 = .ok (.iconst 4, 1) := by decide +kernel
set_option maxRecDepth 20000 in
theorem dL_told_157 : decode cL_told 157 = .ok (.iconst 3, 1) := by decide +kernel
set_option maxRecDepth 20000 in
theorem dL_told_158 : decode cL_told 158 = .ok (.iload 4, 2) := by decide +kernel
set_option maxRecDepth 20000 in
theorem dL_told_160 : decode cL_told 160 = .ok (.imul, 1) := by decide +kernel
set_option maxRecDepth 20000 in
theorem dL_told_161 : decode cL_told 161 = .ok (.iadd, 1) := by decide +kernel
set_option maxRecDepth 20000 in
theorem dL_told_162 : decode cL_told 162 = .ok (.iaload, 1) := by decide +kernel
set_option maxRecDepth 20000 in
theorem dL_told_163 : decode cL_told 163 = .ok (.if_icmp .ne 40, 3) := by decide +kernel
set_option maxRecDepth 20000 in
theorem dL_told_166 : decode cL_told 166 = .ok (.aload_n 0, 1) := by decide +kernel
set_option maxRecDepth 20000 in
theorem dL_told_167 : decode cL_told 167 = .ok (.iconst 1, 1) := by decide +kernel
set_option maxRecDepth 20000 in
theorem dL_told_168 : decode cL_told 168 = .ok (.iload 4, 2) := by decide +kernel
set_option maxRecDepth 20000 in
theorem dL_told_170 : decode cL_told 170 = .ok (.iconst 2, 1) := by decide +kernel
set_option maxRecDepth 20000 in
theorem dL_told_171 : decode cL_told 171 = .ok (.invokevirtual 81, 3) := by decide +kernel
set_option maxRecDepth 20000 in
theorem dL_told_174 : decode cL_told 174 = .ok (.aload_n 1, 1) := by decide +kernel
set_option maxRecDepth 20000 in
theorem dL_told_175 : decode cL_told 175 = .ok (.iconst 5, 1) := by decide +kernel
set_option maxRecDepth 20000 in
theorem dL_told_176 : decode cL_told 176 = .ok (.iconst 3, 1) := by decide +kernel
set_option maxRecDepth 20000 in
theorem dL_told_177 : decode cL_told 177 = .ok (.iload 4, 2) := by decide +kernel
set_option maxRecDepth 20000 in
theorem dL_told_179 : decode cL_told 179 = .ok (.imul, 1) := by decide +kernel
set_option maxRecDepth 20000 in
theorem dL_told_180 : decode cL_told 180 = .ok (.iadd, 1) := by decide +kernel
set_option maxRecDepth 20000 in
theorem dL_told_181 : decode cL_told 181 = .ok (.iaload, 1) := by decide +kernel
set_option maxRecDepth 20000 in
theorem dL_told_182 : decode cL_told 182 = .ok (.if_icmp .ne 21, 3) := by decide +kernel
set_option maxRecDepth 20000 in
theorem dL_told_185 : decode cL_told 185 = .ok (.aload_n 0, 1) := by decide +kernel
set_option maxRecDepth 20000 in
theorem dL_told_186 : decode cL_told 186 = .ok (.iconst 1, 1) := by decide +kernel
set_option maxRecDepth 20000 in
theorem dL_told_187 : decode cL_told 187 = .ok (.iload 4, 2) := by decide +kernel
set_option maxRecDepth 20000 in
theorem dL_told_189 : decode cL_told 189 = .ok (.bipush 10, 2) := by decide +kernel
set_option maxRecDepth 20000 in
theorem dL_told_191 : decode cL_told 191 = .ok (.invokevirtual 81, 3) := by decide +kernel
set_option maxRecDepth 20000 in
theorem dL_told_194 : decode cL_told 194 = .ok (.ldc 80, 2) := by decide +kernel
set_option maxRecDepth 20000 in
theorem dL_told_196 : decode cL_told 196 = .ok (.if_icmp .ne 7, 3) := by decide +kernel
set_option maxRecDepth 20000 in
theorem dL_told_199 : decode cL_told 199 = .ok (.iconst 1, 1) := by decide +kernel
set_option maxRecDepth 20000 in
theorem dL_told_200 : decode cL_told 200 = .ok (.goto 4, 3) := by decide +kernel
set_option maxRecDepth 20000 in
theorem dL_told_203 : decode cL_told 203 = .ok (.iconst 0, 1) := by decide +kernel
set_option maxRecDepth 20000 in
theorem dL_told_204 : decode cL_told 204 = .ok (.istore_n 3, 1) := by decide +kernel
set_option maxRecDepth 20000 in
theorem dL_told_205 : decode cL_told 205 = .ok (.iconst 0, 1) := by decide +kernel
set_option maxRecDepth 20000 in
theorem dL_told_206 : decode cL_told 206 = .ok (.istore 6, 2) := by decide +kernel
set_option maxRecDepth 20000 in
theorem dL_told_208 : decode cL_told 208 = .ok (.iload 6, 2) := by decide +kernel
set_option maxRecDepth 20000 in
theorem dL_told_210 : decode cL_told 210 = .ok (.bipush 6, 2) := by decide +kernel
set_option maxRecDepth 20000 in
theorem dL_told_212 : decode cL_told 212 = .ok (.if_icmp .ge 60, 3) := by decide +kernel
set_option maxRecDepth 20000 in
theorem dL_told_215 : decode cL_told 215 = .ok (.iload_n 3, 1) := by decide +kernel
set_option maxRecDepth 20000 in
theorem dL_told_216 : decode cL_told 216 = .ok (.ifCond .eq 56, 3) := by decide +kernel
set_option maxRecDepth 20000 in
theorem dL_told_219 : decode cL_told 219 = .ok (.aload_n 0, 1) := by decide +kernel
set_option maxRecDepth 20000 in
theorem dL_told_220 : decode cL_told 220 = .ok (.iconst 1, 1) := by decide +kernel
set_option maxRecDepth 20000 in
theorem dL_told_221 : decode cL_told 221 = .ok (.iload 4, 2) := by decide +kernel
set_option maxRecDepth 20000 in
theorem dL_told_223 : decode cL_told 223 = .ok (.iload 6, 2) := by decide +kernel
set_option maxRecDepth 20000 in
theorem dL_told_225 : decode cL_told 225 = .ok (.invokevirtual 83, 3) := by decide +kernel
set_option maxRecDepth 20000 in
theorem dL_told_228 : decode cL_told 228 = .ok (.iload 6, 2) := by decide +kernel
set_option maxRecDepth 20000 in
theorem dL_told_230 : decode cL_told 230 = .ok (.ifCond .eq 20, 3) := by decide +kernel
set_option maxRecDepth 20000 in
theorem dL_told_233 : decode cL_told 233 = .ok (.iload 6, 2) := by decide +kernel
set_option maxRecDepth 20000 in
theorem dL_told_235 : decode cL_told 235 = .ok (.iconst 2, 1) := by decide +kernel
set_option maxRecDepth 20000 in
theorem dL_told_236 : decode cL_told 236 = .ok (.if_icmp .eq 14, 3) := by decide +kernel
set_option maxRecDepth 20000 in
theorem dL_told_239 : decode cL_told 239 = .ok (.iload 6, 2) := by decide +kernel
set_option maxRecDepth 20000 in
theorem dL_told_241 : decode cL_told 241 = .ok (.iconst 3, 1) := by decide +kernel
set_option maxRecDepth 20000 in
theorem dL_told_242 : decode cL_told 242 = .ok (.if_icmp .ne 13, 3) := by decide +kernel
set_option maxRecDepth 20000 in
theorem dL_told_245 : decode cL_told 245 = .ok (.iload 5, 2) := by decide +kernel
set_option maxRecDepth 20000 in
theorem dL_told_247 : decode cL_told 247 = .ok (.ifCond .eq 8, 3) := by decide +kernel
set_option maxRecDepth 20000 in
theorem dL_told_250 : decode cL_told 250 = .ok (.iload 4, 2) := by decide +kernel
set_option maxRecDepth 20000 in
theorem dL_told_252 : decode cL_told 252 = .ok (.goto 5, 3) := by decide +kernel
set_option maxRecDepth 20000 in
theorem dL_told_255 : decode cL_told 255 = .ok (.ldc 86, 2) := by decide +kernel
set_option maxRecDepth 20000 in
theorem dL_told_257 : decode cL_told 257 = .ok (.if_icmp .ne 7, 3) := by decide +kernel
set_option maxRecDepth 20000 in
theorem dL_told_260 : decode cL_told 260 = .ok (.iconst 1, 1) := by decide +kernel
set_option maxRecDepth 20000 in
theorem dL_told_261 : decode cL_told 261 = .ok (.goto 4, 3) := by decide +kernel
set_option maxRecDepth 20000 in
theorem dL_told_264 : decode cL_told 264 = .ok (.iconst 0, 1) := by decide +kernel
set_option maxRecDepth 20000 in
theorem dL_told_265 : decode cL_told 265 = .ok (.istore_n 3, 1) := by decide +kernel
set_option maxRecDepth 20000 in
theorem dL_told_266 : decode cL_told 266 = .ok (.iinc 6 1, 3) := by decide +kernel
set_option maxRecDepth 20000 in
theorem dL_told_269 : decode cL_told 269 = .ok (.goto (-61), 3) := by decide +kernel
set_option maxRecDepth 20000 in
theorem dL_told_272 : decode cL_told 272 = .ok (.iconst 0, 1) := by decide +kernel
set_option maxRecDepth 20000 in
theorem dL_told_273 : decode cL_told 273 = .ok (.istore 6, 2) := by decide +kernel
set_option maxRecDepth 20000 in
theorem dL_told_275 : decode cL_told 275 = .ok (.iload 6, 2) := by decide +kernel
set_option maxRecDepth 20000 in
theorem dL_told_277 : decode cL_told 277 = .ok (.aload_n 1, 1) := by decide +kernel
set_option maxRecDepth 20000 in
theorem dL_told_278 : decode cL_told 278 = .ok (.iconst 0, 1) := by decide +kernel
set_option maxRecDepth 20000 in
theorem dL_told_279 : decode cL_told 279 = .ok (.iaload, 1) := by decide +kernel
set_option maxRecDepth 20000 in
theorem dL_told_280 : decode cL_told 280 = .ok (.if_icmp .ge 39, 3) := by decide +kernel
set_option maxRecDepth 20000 in
theorem dL_told_283 : decode cL_told 283 = .ok (.iload_n 3, 1) := by decide +kernel
set_option maxRecDepth 20000 in
theorem dL_told_284 : decode cL_told 284 = .ok (.ifCond .eq 35, 3) := by decide +kernel
set_option maxRecDepth 20000 in
theorem dL_told_287 : decode cL_told 287 = .ok (.aload_n 0, 1) := by decide +kernel
set_option maxRecDepth 20000 in
theorem dL_told_288 : decode cL_told 288 = .ok (.iconst 1, 1) := by decide +kernel
set_option maxRecDepth 20000 in
theorem dL_told_289 : decode cL_told 289 = .ok (.iload 6, 2) := by decide +kernel
set_option maxRecDepth 20000 in
theorem dL_told_291 : decode cL_told 291 = .ok (.iload 4, 2) := by decide +kernel
set_option maxRecDepth 20000 in
theorem dL_told_293 : decode cL_told 293 = .ok (.invokevirtual 76, 3) := by decide +kernel
set_option maxRecDepth 20000 in
theorem dL_told_296 : decode cL_told 296 = .ok (.aload_n 1, 1) := by decide +kernel
set_option maxRecDepth 20000 in
theorem dL_told_297 : decode cL_told 297 = .ok (.iload 6, 2) := by decide +kernel
set_option maxRecDepth 20000 in
theorem dL_told_299 : decode cL_told 299 = .ok (.iload 4, 2) := by decide +kernel
set_option maxRecDepth 20000 in
theorem dL_told_301 : decode cL_told 301 = .ok (.invokestatic 9, 3) := by decide +kernel
set_option maxRecDepth 20000 in
theorem dL_told_304 : decode cL_told 304 = .ok (.if_icmp .ne 7, 3) := by decide +kernel
set_option maxRecDepth 20000 in
theorem dL_told_307 : decode cL_told 307 = .ok (.iconst 1, 1) := by decide +kernel
set_option maxRecDepth 20000 in
theorem dL_told_308 : decode cL_told 308 = .ok (.goto 4, 3) := by decide +kernel
set_option maxRecDepth 20000 in
theorem dL_told_311 : decode cL_told 311 = .ok (.iconst 0, 1) := by decide +kernel
set_option maxRecDepth 20000 in
theorem dL_told_312 : decode cL_told 312 = .ok (.istore_n 3, 1) := by decide +kernel
set_option maxRecDepth 20000 in
theorem dL_told_313 : decode cL_told 313 = .ok (.iinc 6 1, 3) := by decide +kernel
set_option maxRecDepth 20000 in
theorem dL_told_316 : decode cL_told 316 = .ok (.goto (-41), 3) := by decide +kernel
set_option maxRecDepth 20000 in
theorem dL_told_319 : decode cL_told 319 = .ok (.iconst 0, 1) := by decide +kernel
set_option maxRecDepth 20000 in
theorem dL_told_320 : decode cL_told 320 = .ok (.istore 6, 2) := by decide +kernel
set_option maxRecDepth 20000 in
theorem dL_told_322 : decode cL_told 322 = .ok (.iload 6, 2) := by decide +kernel
set_option maxRecDepth 20000 in
theorem dL_told_324 : decode cL_told 324 = .ok (.iconst 3, 1) := by decide +kernel
set_option maxRecDepth 20000 in
theorem dL_told_325 : decode cL_told 325 = .ok (.if_icmp .ge 40, 3) := by decide +kernel
set_option maxRecDepth 20000 in
theorem dL_told_328 : decode cL_told 328 = .ok (.iload_n 3, 1) := by decide +kernel
set_option maxRecDepth 20000 in
theorem dL_told_329 : decode cL_told 329 = .ok (.ifCond .eq 36, 3) := by decide +kernel
set_option maxRecDepth 20000 in
theorem dL_told_332 : decode cL_told 332 = .ok (.aload_n 0, 1) := by decide +kernel
set_option maxRecDepth 20000 in
theorem dL_told_333 : decode cL_told 333 = .ok (.iload 6, 2) := by decide +kernel
set_option maxRecDepth 20000 in
theorem dL_told_335 : decode cL_told 335 = .ok (.iload 4, 2) := by decide +kernel
set_option maxRecDepth 20000 in
theorem dL_told_337 : decode cL_told 337 = .ok (.invokevirtual 87, 3) := by decide +kernel
set_option maxRecDepth 20000 in
theorem dL_told_340 : decode cL_told 340 = .ok (.aload_n 2, 1) := by decide +kernel
set_option maxRecDepth 20000 in
theorem dL_told_341 : decode cL_told 341 = .ok (.bipush 6, 2) := by decide +kernel
set_option maxRecDepth 20000 in
theorem dL_told_343 : decode cL_told 343 = .ok (.iload 6, 2) := by decide +kernel
set_option maxRecDepth 20000 in
theorem dL_told_345 : decode cL_told 345 = .ok (.imul, 1) := by decide +kernel
set_option maxRecDepth 20000 in
theorem dL_told_346 : decode cL_told 346 = .ok (.iload 4, 2) := by decide +kernel
set_option maxRecDepth 20000 in
theorem dL_told_348 : decode cL_told 348 = .ok (.iadd, 1) := by decide +kernel
set_option maxRecDepth 20000 in
theorem dL_told_349 : decode cL_told 349 = .ok (.iaload, 1) := by decide +kernel
set_option maxRecDepth 20000 in
theorem dL_told_350 : decode cL_told 350 = .ok (.if_icmp .ne 7, 3) := by decide +kernel
set_option maxRecDepth 20000 in
theorem dL_told_353 : decode cL_told 353 = .ok (.iconst 1, 1) := by decide +kernel
set_option maxRecDepth 20000 in
theorem dL_told_354 : decode cL_told 354 = .ok (.goto 4, 3) := by decide +kernel
set_option maxRecDepth 20000 in
theorem dL_told_357 : decode cL_told 357 = .ok (.iconst 0, 1) := by decide +kernel
set_option maxRecDepth 20000 in
theorem dL_told_358 : decode cL_told 358 = .ok (.istore_n 3, 1) := by decide +kernel
set_option maxRecDepth 20000 in
theorem dL_told_359 : decode cL_told 359 = .ok (.iinc 6 1, 3) := by decide +kernel
set_option maxRecDepth 20000 in
theorem dL_told_362 : decode cL_told 362 = .ok (.goto (-40), 3) := by decide +kernel
set_option maxRecDepth 20000 in
theorem dL_told_365 : decode cL_told 365 = .ok (.iinc 4 1, 3) := by decide +kernel
set_option maxRecDepth 20000 in
theorem dL_told_368 : decode cL_told 368 = .ok (.goto (-279), 3) := by decide +kernel
set_option maxRecDepth 20000 in
theorem dL_told_371 : decode cL_told 371 = .ok (.iconst 0, 1) := by decide +kernel
set_option maxRecDepth 20000 in
theorem dL_told_372 : decode cL_told 372 = .ok (.istore 4, 2) := by decide +kernel
set_option maxRecDepth 20000 in
theorem dL_told_374 : decode cL_told 374 = .ok (.iload 4, 2) := by decide +kernel
set_option maxRecDepth 20000 in
theorem dL_told_376 : decode cL_told 376 = .ok (.aload_n 1, 1) := by decide +kernel
set_option maxRecDepth 20000 in
theorem dL_told_377 : decode cL_told 377 = .ok (.iconst 2, 1) := by decide +kernel
set_option maxRecDepth 20000 in
theorem dL_told_378 : decode cL_told 378 = .ok (.iaload, 1) := by decide +kernel
set_option maxRecDepth 20000 in
theorem dL_told_379 : decode cL_told 379 = .ok (.if_icmp .ge 316, 3) := by decide +kernel
set_option maxRecDepth 20000 in
theorem dL_told_382 : decode cL_told 382 = .ok (.iload_n 3, 1) := by decide +kernel
set_option maxRecDepth 20000 in
theorem dL_told_383 : decode cL_told 383 = .ok (.ifCond .eq 312, 3) := by decide +kernel
set_option maxRecDepth 20000 in
theorem dL_told_386 : decode cL_told 386 = .ok (.aload_n 1, 1) := by decide +kernel
set_option maxRecDepth 20000 in
theorem dL_told_387 : decode cL_told 387 = .ok (.bipush 23, 2) := by decide +kernel
set_option maxRecDepth 20000 in
theorem dL_told_389 : decode cL_told 389 = .ok (.bipush 6, 2) := by decide +kernel
set_option maxRecDepth 20000 in
theorem dL_told_391 : decode cL_told 391 = .ok (.iload 4, 2) := by decide +kernel
set_option maxRecDepth 20000 in
theorem dL_told_393 : decode cL_told 393 = .ok (.imul, 1) := by decide +kernel
set_option maxRecDepth 20000 in
theorem dL_told_394 : decode cL_told 394 = .ok (.iadd, 1) := by decide +kernel
set_option maxRecDepth 20000 in
theorem dL_told_395 : decode cL_told 395 = .ok (.iaload, 1) := by decide +kernel
set_option maxRecDepth 20000 in
theorem dL_told_396 : decode cL_told 396 = .ok (.istore 5, 2) := by decide +kernel
set_option maxRecDepth 20000 in
theorem dL_told_398 : decode cL_told 398 = .ok (.iconst 1, 1) := by decide +kernel
set_option maxRecDepth 20000 in
theorem dL_told_399 : decode cL_told 399 = .ok (.istore 6, 2) := by decide +kernel
set_option maxRecDepth 20000 in
theorem dL_told_401 : decode cL_told 401 = .ok (.iconst 0, 1) := by decide +kernel
set_option maxRecDepth 20000 in
theorem dL_told_402 : decode cL_told 402 = .ok (.istore 7, 2) := by decide +kernel
set_option maxRecDepth 20000 in
theorem dL_told_404 : decode cL_told 404 = .ok (.iload 7, 2) := by decide +kernel
set_option maxRecDepth 20000 in
theorem dL_told_406 : decode cL_told 406 = .ok (.aload_n 1, 1) := by decide +kernel
set_option maxRecDepth 20000 in
theorem dL_told_407 : decode cL_told 407 = .ok (.iconst 1, 1) := by decide +kernel
set_option maxRecDepth 20000 in
theorem dL_told_408 : decode cL_told 408 = .ok (.iaload, 1) := by decide +kernel
set_option maxRecDepth 20000 in
theorem dL_told_409 : decode cL_told 409 = .ok (.if_icmp .ge 62, 3) := by decide +kernel
set_option maxRecDepth 20000 in
theorem dL_told_412 : decode cL_told 412 = .ok (.iload_n 3, 1) := by decide +kernel
set_option maxRecDepth 20000 in
theorem dL_told_413 : decode cL_told 413 = .ok (.ifCond .eq 58, 3) := by decide +kernel
set_option maxRecDepth 20000 in
theorem dL_told_416 : decode cL_told 416 = .ok (.iload 6, 2) := by decide +kernel
set_option maxRecDepth 20000 in
theorem dL_told_418 : decode cL_told 418 = .ok (.ifCond .eq 18, 3) := by decide +kernel
set_option maxRecDepth 20000 in
theorem dL_told_421 : decode cL_told 421 = .ok (.aload_n 1, 1) := by decide +kernel
set_option maxRecDepth 20000 in
theorem dL_told_422 : decode cL_told 422 = .ok (.iload 7, 2) := by decide +kernel
set_option maxRecDepth 20000 in
theorem dL_told_424 : decode cL_told 424 = .ok (.iload 4, 2) := by decide +kernel
set_option maxRecDepth 20000 in
theorem dL_told_426 : decode cL_told 426 = .ok (.invokestatic 15, 3) := by decide +kernel
set_option maxRecDepth 20000 in
theorem dL_told_429 : decode cL_told 429 = .ok (.ifCond .ne 7, 3) := by decide +kernel
set_option maxRecDepth 20000 in
theorem dL_told_432 : decode cL_told 432 = .ok (.iconst 1, 1) := by decide +kernel
set_option maxRecDepth 20000 in
theorem dL_told_433 : decode cL_told 433 = .ok (.goto 4, 3) := by decide +kernel
set_option maxRecDepth 20000 in
theorem dL_told_436 : decode cL_told 436 = .ok (.iconst 0, 1) := by decide +kernel
set_option maxRecDepth 20000 in
theorem dL_told_437 : decode cL_told 437 = .ok (.istore 6, 2) := by decide +kernel
set_option maxRecDepth 20000 in
theorem dL_told_439 : decode cL_told 439 = .ok (.aload_n 0, 1) := by decide +kernel
set_option maxRecDepth 20000 in
theorem dL_told_440 : decode cL_told 440 = .ok (.iconst 2, 1) := by decide +kernel
set_option maxRecDepth 20000 in
theorem dL_told_441 : decode cL_told 441 = .ok (.iload 7, 2) := by decide +kernel
set_option maxRecDepth 20000 in
theorem dL_told_443 : decode cL_told 443 = .ok (.iload 4, 2) := by decide +kernel
set_option maxRecDepth 20000 in
theorem dL_told_445 : decode cL_told 445 = .ok (.invokevirtual 76, 3) := by decide +kernel
set_option maxRecDepth 20000 in
theorem dL_told_448 : decode cL_told 448 = .ok (.aload_n 1, 1) := by decide +kernel
set_option maxRecDepth 20000 in
theorem dL_told_449 : decode cL_told 449 = .ok (.iload 7, 2) := by decide +kernel
set_option maxRecDepth 20000 in
theorem dL_told_451 : decode cL_told 451 = .ok (.iload 4, 2) := by decide +kernel
set_option maxRecDepth 20000 in
theorem dL_told_453 : decode cL_told 453 = .ok (.invokestatic 15, 3) := by decide +kernel
set_option maxRecDepth 20000 in
theorem dL_told_456 : decode cL_told 456 = .ok (.if_icmp .ne 7, 3) := by decide +kernel
set_option maxRecDepth 20000 in
theorem dL_told_459 : decode cL_told 459 = .ok (.iconst 1, 1) := by decide +kernel
set_option maxRecDepth 20000 in
theorem dL_told_460 : decode cL_told 460 = .ok (.goto 4, 3) := by decide +kernel
set_option maxRecDepth 20000 in
theorem dL_told_463 : decode cL_told 463 = .ok (.iconst 0, 1) := by decide +kernel
set_option maxRecDepth 20000 in
theorem dL_told_464 : decode cL_told 464 = .ok (.istore_n 3, 1) := by decide +kernel
set_option maxRecDepth 20000 in
theorem dL_told_465 : decode cL_told 465 = .ok (.iinc 7 1, 3) := by decide +kernel
set_option maxRecDepth 20000 in
theorem dL_told_468 : decode cL_told 468 = .ok (.goto (-64), 3) := by decide +kernel
set_option maxRecDepth 20000 in
theorem dL_told_471 : decode cL_told 471 = .ok (.iload_n 3, 1) := by decide +kernel
set_option maxRecDepth 20000 in
theorem dL_told_472 : decode cL_told 472 = .ok (.ifCond .eq 80, 3) := by decide +kernel
set_option maxRecDepth 20000 in
theorem dL_told_475 : decode cL_told 475 = .ok (.aload_n 0, 1) := by decide +kernel
set_option maxRecDepth 20000 in
theorem dL_told_476 : decode cL_told 476 = .ok (.iconst 2, 1) := by decide +kernel
set_option maxRecDepth 20000 in
theorem dL_told_477 : decode cL_told 477 = .ok (.iload 4, 2) := by decide +kernel
set_option maxRecDepth 20000 in
theorem dL_told_479 : decode cL_told 479 = .ok (.iconst 0, 1) := by decide +kernel
set_option maxRecDepth 20000 in
theorem dL_told_480 : decode cL_told 480 = .ok (.invokevirtual 81, 3) := by decide +kernel
set_option maxRecDepth 20000 in
theorem dL_told_483 : decode cL_told 483 = .ok (.aload_n 1, 1) := by decide +kernel
set_option maxRecDepth 20000 in
theorem dL_told_484 : decode cL_told 484 = .ok (.bipush 22, 2) := by decide +kernel
set_option maxRecDepth 20000 in
theorem dL_told_486 : decode cL_told 486 = .ok (.bipush 6, 2) := by decide +kernel
set_option maxRecDepth 20000 in
theorem dL_told_488 : decode cL_told 488 = .ok (.iload 4, 2) := by decide +kernel
set_option maxRecDepth 20000 in
theorem dL_told_490 : decode cL_told 490 = .ok (.imul, 1) := by decide +kernel
set_option maxRecDepth 20000 in
theorem dL_told_491 : decode cL_told 491 = .ok (.iadd, 1) := by decide +kernel
set_option maxRecDepth 20000 in
theorem dL_told_492 : decode cL_told 492 = .ok (.iaload, 1) := by decide +kernel
set_option maxRecDepth 20000 in
theorem dL_told_493 : decode cL_told 493 = .ok (.if_icmp .ne 59, 3) := by decide +kernel
set_option maxRecDepth 20000 in
theorem dL_told_496 : decode cL_told 496 = .ok (.aload_n 0, 1) := by decide +kernel
set_option maxRecDepth 20000 in
theorem dL_told_497 : decode cL_told 497 = .ok (.iconst 2, 1) := by decide +kernel
set_option maxRecDepth 20000 in
theorem dL_told_498 : decode cL_told 498 = .ok (.iload 4, 2) := by decide +kernel
set_option maxRecDepth 20000 in
theorem dL_told_500 : decode cL_told 500 = .ok (.iconst 1, 1) := by decide +kernel
set_option maxRecDepth 20000 in
theorem dL_told_501 : decode cL_told 501 = .ok (.invokevirtual 81, 3) := by decide +kernel
set_option maxRecDepth 20000 in
theorem dL_told_504 : decode cL_told 504 = .ok (.iload 5, 2) := by decide +kernel
set_option maxRecDepth 20000 in
theorem dL_told_506 : decode cL_told 506 = .ok (.if_icmp .ne 46, 3) := by decide +kernel
set_option maxRecDepth 20000 in
theorem dL_told_509 : decode cL_told 509 = .ok (.aload_n 0, 1) := by decide +kernel
set_option maxRecDepth 20000 in
theorem dL_told_510 : decode cL_told 510 = .ok (.iconst 2, 1) := by decide +kernel
set_option maxRecDepth 20000 in
theorem dL_told_511 : decode cL_told 511 = .ok (.iload 4, 2) := by decide +kernel
set_option maxRecDepth 20000 in
theorem dL_told_513 : decode cL_told 513 = .ok (.iconst 2, 1) := by decide +kernel
set_option maxRecDepth 20000 in
theorem dL_told_514 : decode cL_told 514 = .ok (.invokevirtual 81, 3) := by decide +kernel
set_option maxRecDepth 20000 in
theorem dL_told_517 : decode cL_told 517 = .ok (.aload_n 1, 1) := by decide +kernel
set_option maxRecDepth 20000 in
theorem dL_told_518 : decode cL_told 518 = .ok (.aload_n 1, 1) := by decide +kernel
set_option maxRecDepth 20000 in
theorem dL_told_519 : decode cL_told 519 = .ok (.bipush 24, 2) := by decide +kernel
set_option maxRecDepth 20000 in
theorem dL_told_521 : decode cL_told 521 = .ok (.bipush 6, 2) := by decide +kernel
set_option maxRecDepth 20000 in
theorem dL_told_523 : decode cL_told 523 = .ok (.iload 4, 2) := by decide +kernel
set_option maxRecDepth 20000 in
theorem dL_told_525 : decode cL_told 525 = .ok (.imul, 1) := by decide +kernel
set_option maxRecDepth 20000 in
theorem dL_told_526 : decode cL_told 526 = .ok (.iadd, 1) := by decide +kernel
set_option maxRecDepth 20000 in
theorem dL_told_527 : decode cL_told 527 = .ok (.iaload, 1) := by decide +kernel
set_option maxRecDepth 20000 in
theorem dL_told_528 : decode cL_told 528 = .ok (.invokestatic 49, 3) := by decide +kernel
set_option maxRecDepth 20000 in
theorem dL_told_531 : decode cL_told 531 = .ok (.if_icmp .ne 21, 3) := by decide +kernel
set_option maxRecDepth 20000 in
theorem dL_told_534 : decode cL_told 534 = .ok (.aload_n 0, 1) := by decide +kernel
set_option maxRecDepth 20000 in
theorem dL_told_535 : decode cL_told 535 = .ok (.iconst 2, 1) := by decide +kernel
set_option maxRecDepth 20000 in
theorem dL_told_536 : decode cL_told 536 = .ok (.iload 4, 2) := by decide +kernel
set_option maxRecDepth 20000 in
theorem dL_told_538 : decode cL_told 538 = .ok (.bipush 14, 2) := by decide +kernel
set_option maxRecDepth 20000 in
theorem dL_told_540 : decode cL_told 540 = .ok (.invokevirtual 81, 3) := by decide +kernel
set_option maxRecDepth 20000 in
theorem dL_told_543 : decode cL_told 543 = .ok (.ldc 80, 2) := by decide +kernel
set_option maxRecDepth 20000 in
theorem dL_told_545 : decode cL_told 545 = .ok (.if_icmp .ne 7, 3) := by decide +kernel
set_option maxRecDepth 20000 in
theorem dL_told_548 : decode cL_told 548 = .ok (.iconst 1, 1) := by decide +kernel
set_option maxRecDepth 20000 in
theorem dL_told_549 : decode cL_told 549 = .ok (.goto 4, 3) := by decide +kernel
set_option maxRecDepth 20000 in
theorem dL_told_552 : decode cL_told 552 = .ok (.iconst 0, 1) := by decide +kernel
set_option maxRecDepth 20000 in
theorem dL_told_553 : decode cL_told 553 = .ok (.istore_n 3, 1) := by decide +kernel
set_option maxRecDepth 20000 in
theorem dL_told_554 : decode cL_told 554 = .ok (.iconst 0, 1) := by decide +kernel
set_option maxRecDepth 20000 in
theorem dL_told_555 : decode cL_told 555 = .ok (.istore 7, 2) := by decide +kernel
set_option maxRecDepth 20000 in
theorem dL_told_557 : decode cL_told 557 = .ok (.iload 7, 2) := by decide +kernel
set_option maxRecDepth 20000 in
theorem dL_told_559 : decode cL_told 559 = .ok (.iconst 4, 1) := by decide +kernel
set_option maxRecDepth 20000 in
theorem dL_told_560 : decode cL_told 560 = .ok (.if_icmp .ge 62, 3) := by decide +kernel
set_option maxRecDepth 20000 in
theorem dL_told_563 : decode cL_told 563 = .ok (.iload_n 3, 1) := by decide +kernel
set_option maxRecDepth 20000 in
theorem dL_told_564 : decode cL_told 564 = .ok (.ifCond .eq 58, 3) := by decide +kernel
set_option maxRecDepth 20000 in
theorem dL_told_567 : decode cL_told 567 = .ok (.aload_n 0, 1) := by decide +kernel
set_option maxRecDepth 20000 in
theorem dL_told_568 : decode cL_told 568 = .ok (.iconst 2, 1) := by decide +kernel
set_option maxRecDepth 20000 in
theorem dL_told_569 : decode cL_told 569 = .ok (.iload 4, 2) := by decide +kernel
set_option maxRecDepth 20000 in
theorem dL_told_571 : decode cL_told 571 = .ok (.bipush 10, 2) := by decide +kernel
set_option maxRecDepth 20000 in
theorem dL_told_573 : decode cL_told 573 = .ok (.iload 7, 2) := by decide +kernel
set_option maxRecDepth 20000 in
theorem dL_told_575 : decode cL_told 575 = .ok (.iadd, 1) := by decide +kernel
set_option maxRecDepth 20000 in
theorem dL_told_576 : decode cL_told 576 = .ok (.invokevirtual 81, 3) := by decide +kernel
set_option maxRecDepth 20000 in
theorem dL_told_579 : decode cL_told 579 = .ok (.iload 7, 2) := by decide +kernel
set_option maxRecDepth 20000 in
theorem dL_told_581 : decode cL_told 581 = .ok (.iload 5, 2) := by decide +kernel
set_option maxRecDepth 20000 in
theorem dL_told_583 : decode cL_told 583 = .ok (.if_icmp .ge 22, 3) := by decide +kernel
set_option maxRecDepth 20000 in
theorem dL_told_586 : decode cL_told 586 = .ok (.aload_n 1, 1) := by decide +kernel
set_option maxRecDepth 20000 in
theorem dL_told_587 : decode cL_told 587 = .ok (.bipush 24, 2) := by decide +kernel
set_option maxRecDepth 20000 in
theorem dL_told_589 : decode cL_told 589 = .ok (.bipush 6, 2) := by decide +kernel
set_option maxRecDepth 20000 in
theorem dL_told_591 : decode cL_told 591 = .ok (.iload 4, 2) := by decide +kernel
set_option maxRecDepth 20000 in
theorem dL_told_593 : decode cL_told 593 = .ok (.imul, 1) := by decide +kernel
set_option maxRecDepth 20000 in
theorem dL_told_594 : decode cL_told 594 = .ok (.iadd, 1) := by decide +kernel
set_option maxRecDepth 20000 in
theorem dL_told_595 : decode cL_told 595 = .ok (.iload 7, 2) := by decide +kernel
set_option maxRecDepth 20000 in
theorem dL_told_597 : decode cL_told 597 = .ok (.iadd, 1) := by decide +kernel
set_option maxRecDepth 20000 in
theorem dL_told_598 : decode cL_told 598 = .ok (.iaload, 1) := by decide +kernel
set_option maxRecDepth 20000 in
theorem dL_told_599 : decode cL_told 599 = .ok (.invokestatic 55, 3) := by decide +kernel
set_option maxRecDepth 20000 in
theorem dL_told_602 : decode cL_told 602 = .ok (.goto 5, 3) := by decide +kernel
set_option maxRecDepth 20000 in
theorem dL_told_605 : decode cL_told 605 = .ok (.ldc 86, 2) := by decide +kernel
set_option maxRecDepth 20000 in
theorem dL_told_607 : decode cL_told 607 = .ok (.if_icmp .ne 7, 3) := by decide +kernel
set_option maxRecDepth 20000 in
theorem dL_told_610 : decode cL_told 610 = .ok (.iconst 1, 1) := by decide +kernel
set_option maxRecDepth 20000 in
theorem dL_told_611 : decode cL_told 611 = .ok (.goto 4, 3) := by decide +kernel
set_option maxRecDepth 20000 in
theorem dL_told_614 : decode cL_told 614 = .ok (.iconst 0, 1) := by decide +kernel
set_option maxRecDepth 20000 in
theorem dL_told_615 : decode cL_told 615 = .ok (.istore_n 3, 1) := by decide +kernel
set_option maxRecDepth 20000 in
theorem dL_told_616 : decode cL_told 616 = .ok (.iinc 7 1, 3) := by decide +kernel
set_option maxRecDepth 20000 in
theorem dL_told_619 : decode cL_told 619 = .ok (.goto (-62), 3) := by decide +kernel
set_option maxRecDepth 20000 in
theorem dL_told_622 : decode cL_told 622 = .ok (.iconst 0, 1) := by decide +kernel
set_option maxRecDepth 20000 in
theorem dL_told_623 : decode cL_told 623 = .ok (.istore 7, 2) := by decide +kernel
set_option maxRecDepth 20000 in
theorem dL_told_625 : decode cL_told 625 = .ok (.iload 7, 2) := by decide +kernel
set_option maxRecDepth 20000 in
theorem dL_told_627 : decode cL_told 627 = .ok (.bipush 6, 2) := by decide +kernel
set_option maxRecDepth 20000 in
theorem dL_told_629 : decode cL_told 629 = .ok (.if_icmp .ge 60, 3) := by decide +kernel
set_option maxRecDepth 20000 in
theorem dL_told_632 : decode cL_told 632 = .ok (.iload_n 3, 1) := by decide +kernel
set_option maxRecDepth 20000 in
theorem dL_told_633 : decode cL_told 633 = .ok (.ifCond .eq 56, 3) := by decide +kernel
set_option maxRecDepth 20000 in
theorem dL_told_636 : decode cL_told 636 = .ok (.aload_n 0, 1) := by decide +kernel
set_option maxRecDepth 20000 in
theorem dL_told_637 : decode cL_told 637 = .ok (.iconst 2, 1) := by decide +kernel
set_option maxRecDepth 20000 in
theorem dL_told_638 : decode cL_told 638 = .ok (.iload 4, 2) := by decide +kernel
set_option maxRecDepth 20000 in
theorem dL_told_640 : decode cL_told 640 = .ok (.iload 7, 2) := by decide +kernel
set_option maxRecDepth 20000 in
theorem dL_told_642 : decode cL_told 642 = .ok (.invokevirtual 83, 3) := by decide +kernel
set_option maxRecDepth 20000 in
theorem dL_told_645 : decode cL_told 645 = .ok (.iload 7, 2) := by decide +kernel
set_option maxRecDepth 20000 in
theorem dL_told_647 : decode cL_told 647 = .ok (.ifCond .eq 20, 3) := by decide +kernel
set_option maxRecDepth 20000 in
theorem dL_told_650 : decode cL_told 650 = .ok (.iload 7, 2) := by decide +kernel
set_option maxRecDepth 20000 in
theorem dL_told_652 : decode cL_told 652 = .ok (.iconst 4, 1) := by decide +kernel
set_option maxRecDepth 20000 in
theorem dL_told_653 : decode cL_told 653 = .ok (.if_icmp .eq 14, 3) := by decide +kernel
set_option maxRecDepth 20000 in
theorem dL_told_656 : decode cL_told 656 = .ok (.iload 7, 2) := by decide +kernel
set_option maxRecDepth 20000 in
theorem dL_told_658 : decode cL_told 658 = .ok (.iconst 5, 1) := by decide +kernel
set_option maxRecDepth 20000 in
theorem dL_told_659 : decode cL_told 659 = .ok (.if_icmp .ne 13, 3) := by decide +kernel
set_option maxRecDepth 20000 in
theorem dL_told_662 : decode cL_told 662 = .ok (.iload 6, 2) := by decide +kernel
set_option maxRecDepth 20000 in
theorem dL_told_664 : decode cL_told 664 = .ok (.ifCond .eq 8, 3) := by decide +kernel
set_option maxRecDepth 20000 in
theorem dL_told_667 : decode cL_told 667 = .ok (.iload 4, 2) := by decide +kernel
set_option maxRecDepth 20000 in
theorem dL_told_669 : decode cL_told 669 = .ok (.goto 5, 3) := by decide +kernel
set_option maxRecDepth 20000 in
theorem dL_told_672 : decode cL_told 672 = .ok (.ldc 86, 2) := by decide +kernel
set_option maxRecDepth 20000 in
theorem dL_told_674 : decode cL_told 674 = .ok (.if_icmp .ne 7, 3) := by decide +kernel
set_option maxRecDepth 20000 in
theorem dL_told_677 : decode cL_told 677 = .ok (.iconst 1, 1) := by decide +kernel
set_option maxRecDepth 20000 in
theorem dL_told_678 : decode cL_told 678 = .ok (.goto 4, 3) := by decide +kernel
set_option maxRecDepth 20000 in
theorem dL_told_681 : decode cL_told 681 = .ok (.iconst 0, 1) := by decide +kernel
set_option maxRecDepth 20000 in
theorem dL_told_682 : decode cL_told 682 = .ok (.istore_n 3, 1) := by decide +kernel
set_option maxRecDepth 20000 in
theorem dL_told_683 : decode cL_told 683 = .ok (.iinc 7 1, 3) := by decide +kernel
set_option maxRecDepth 20000 in
theorem dL_told_686 : decode cL_told 686 = .ok (.goto (-61), 3) := by decide +kernel
set_option maxRecDepth 20000 in
theorem dL_told_689 : decode cL_told 689 = .ok (.iinc 4 1, 3) := by decide +kernel
set_option maxRecDepth 20000 in
theorem dL_told_692 : decode cL_told 692 = .ok (.goto (-318), 3) := by decide +kernel
set_option maxRecDepth 20000 in
theorem dL_told_695 : decode cL_told 695 = .ok (.iconst 0, 1) := by decide +kernel
set_option maxRecDepth 20000 in
theorem dL_told_696 : decode cL_told 696 = .ok (.istore 4, 2) := by decide +kernel
set_option maxRecDepth 20000 in
theorem dL_told_698 : decode cL_told 698 = .ok (.iload 4, 2) := by decide +kernel
set_option maxRecDepth 20000 in
theorem dL_told_700 : decode cL_told 700 = .ok (.iconst 3, 1) := by decide +kernel
set_option maxRecDepth 20000 in
theorem dL_told_701 : decode cL_told 701 = .ok (.aload_n 1, 1) := by decide +kernel
set_option maxRecDepth 20000 in
theorem dL_told_702 : decode cL_told 702 = .ok (.iconst 0, 1) := by decide +kernel
set_option maxRecDepth 20000 in
theorem dL_told_703 : decode cL_told 703 = .ok (.iaload, 1) := by decide +kernel
set_option maxRecDepth 20000 in
theorem dL_told_704 : decode cL_told 704 = .ok (.imul, 1) := by decide +kernel
set_option maxRecDepth 20000 in
theorem dL_told_705 : decode cL_told 705 = .ok (.if_icmp .ge 139, 3) := by decide +kernel
set_option maxRecDepth 20000 in
theorem dL_told_708 : decode cL_told 708 = .ok (.iload_n 3, 1) := by decide +kernel
set_option maxRecDepth 20000 in
theorem dL_told_709 : decode cL_told 709 = .ok (.ifCond .eq 135, 3) := by decide +kernel
set_option maxRecDepth 20000 in
theorem dL_told_712 : decode cL_told 712 = .ok (.iconst 0, 1) := by decide +kernel
set_option maxRecDepth 20000 in
theorem dL_told_713 : decode cL_told 713 = .ok (.istore 5, 2) := by decide +kernel
set_option maxRecDepth 20000 in
theorem dL_told_715 : decode cL_told 715 = .ok (.iconst 0, 1) := by decide +kernel
set_option maxRecDepth 20000 in
theorem dL_told_716 : decode cL_told 716 = .ok (.istore 6, 2) := by decide +kernel
set_option maxRecDepth 20000 in
theorem dL_told_718 : decode cL_told 718 = .ok (.iload 6, 2) := by decide +kernel
set_option maxRecDepth 20000 in
theorem dL_told_720 : decode cL_told 720 = .ok (.aload_n 1, 1) := by decide +kernel
set_option maxRecDepth 20000 in
theorem dL_told_721 : decode cL_told 721 = .ok (.iconst 1, 1) := by decide +kernel
set_option maxRecDepth 20000 in
theorem dL_told_722 : decode cL_told 722 = .ok (.iaload, 1) := by decide +kernel
set_option maxRecDepth 20000 in
theorem dL_told_723 : decode cL_told 723 = .ok (.if_icmp .ge 41, 3) := by decide +kernel
set_option maxRecDepth 20000 in
theorem dL_told_726 : decode cL_told 726 = .ok (.iload 5, 2) := by decide +kernel
set_option maxRecDepth 20000 in
theorem dL_told_728 : decode cL_told 728 = .ok (.aload_n 2, 1) := by decide +kernel
set_option maxRecDepth 20000 in
theorem dL_told_729 : decode cL_told 729 = .ok (.bipush 6, 2) := by decide +kernel
set_option maxRecDepth 20000 in
theorem dL_told_731 : decode cL_told 731 = .ok (.iload 4, 2) := by decide +kernel
set_option maxRecDepth 20000 in
theorem dL_told_733 : decode cL_told 733 = .ok (.aload_n 1, 1) := by decide +kernel
set_option maxRecDepth 20000 in
theorem dL_told_734 : decode cL_told 734 = .ok (.iconst 0, 1) := by decide +kernel
set_option maxRecDepth 20000 in
theorem dL_told_735 : decode cL_told 735 = .ok (.iaload, 1) := by decide +kernel
set_option maxRecDepth 20000 in
theorem dL_told_736 : decode cL_told 736 = .ok (.idiv, 1) := by decide +kernel
set_option maxRecDepth 20000 in
theorem dL_told_737 : decode cL_told 737 = .ok (.imul, 1) := by decide +kernel
set_option maxRecDepth 20000 in
theorem dL_told_738 : decode cL_told 738 = .ok (.iload 6, 2) := by decide +kernel
set_option maxRecDepth 20000 in
theorem dL_told_740 : decode cL_told 740 = .ok (.iadd, 1) := by decide +kernel
set_option maxRecDepth 20000 in
theorem dL_told_741 : decode cL_told 741 = .ok (.iaload, 1) := by decide +kernel
set_option maxRecDepth 20000 in
theorem dL_told_742 : decode cL_told 742 = .ok (.aload_n 1, 1) := by decide +kernel
set_option maxRecDepth 20000 in
theorem dL_told_743 : decode cL_told 743 = .ok (.iload 4, 2) := by decide +kernel
set_option maxRecDepth 20000 in
theorem dL_told_745 : decode cL_told 745 = .ok (.aload_n 1, 1) := by decide +kernel
set_option maxRecDepth 20000 in
theorem dL_told_746 : decode cL_told 746 = .ok (.iconst 0, 1) := by decide +kernel
set_option maxRecDepth 20000 in
theorem dL_told_747 : decode cL_told 747 = .ok (.iaload, 1) := by decide +kernel
set_option maxRecDepth 20000 in
theorem dL_told_748 : decode cL_told 748 = .ok (.irem, 1) := by decide +kernel
set_option maxRecDepth 20000 in
theorem dL_told_749 : decode cL_told 749 = .ok (.iload 6, 2) := by decide +kernel
set_option maxRecDepth 20000 in
theorem dL_told_751 : decode cL_told 751 = .ok (.invokestatic 9, 3) := by decide +kernel
set_option maxRecDepth 20000 in
theorem dL_told_754 : decode cL_told 754 = .ok (.imul, 1) := by decide +kernel
set_option maxRecDepth 20000 in
theorem dL_told_755 : decode cL_told 755 = .ok (.iadd, 1) := by decide +kernel
set_option maxRecDepth 20000 in
theorem dL_told_756 : decode cL_told 756 = .ok (.istore 5, 2) := by decide +kernel
set_option maxRecDepth 20000 in
theorem dL_told_758 : decode cL_told 758 = .ok (.iinc 6 1, 3) := by decide +kernel
set_option maxRecDepth 20000 in
theorem dL_told_761 : decode cL_told 761 = .ok (.goto (-43), 3) := by decide +kernel
set_option maxRecDepth 20000 in
theorem dL_told_764 : decode cL_told 764 = .ok (.aload_n 0, 1) := by decide +kernel
set_option maxRecDepth 20000 in
theorem dL_told_765 : decode cL_told 765 = .ok (.iload 4, 2) := by decide +kernel
set_option maxRecDepth 20000 in
theorem dL_told_767 : decode cL_told 767 = .ok (.aload_n 1, 1) := by decide +kernel
set_option maxRecDepth 20000 in
theorem dL_told_768 : decode cL_told 768 = .ok (.iconst 0, 1) := by decide +kernel
set_option maxRecDepth 20000 in
theorem dL_told_769 : decode cL_told 769 = .ok (.iaload, 1) := by decide +kernel
set_option maxRecDepth 20000 in
theorem dL_told_770 : decode cL_told 770 = .ok (.idiv, 1) := by decide +kernel
set_option maxRecDepth 20000 in
theorem dL_told_771 : decode cL_told 771 = .ok (.iload 4, 2) := by decide +kernel
set_option maxRecDepth 20000 in
theorem dL_told_773 : decode cL_told 773 = .ok (.aload_n 1, 1) := by decide +kernel
set_option maxRecDepth 20000 in
theorem dL_told_774 : decode cL_told 774 = .ok (.iconst 0, 1) := by decide +kernel
set_option maxRecDepth 20000 in
theorem dL_told_775 : decode cL_told 775 = .ok (.iaload, 1) := by decide +kernel
set_option maxRecDepth 20000 in
theorem dL_told_776 : decode cL_told 776 = .ok (.irem, 1) := by decide +kernel
set_option maxRecDepth 20000 in
theorem dL_told_777 : decode cL_told 777 = .ok (.invokevirtual 90, 3) := by decide +kernel
set_option maxRecDepth 20000 in
theorem dL_told_780 : decode cL_told 780 = .ok (.iload 5, 2) := by decide +kernel
set_option maxRecDepth 20000 in
theorem dL_told_782 : decode cL_told 782 = .ok (.if_icmp .ne 54, 3) := by decide +kernel
set_option maxRecDepth 20000 in
theorem dL_told_785 : decode cL_told 785 = .ok (.iload 4, 2) := by decide +kernel
set_option maxRecDepth 20000 in
theorem dL_told_787 : decode cL_told 787 = .ok (.aload_n 1, 1) := by decide +kernel
set_option maxRecDepth 20000 in
theorem dL_told_788 : decode cL_told 788 = .ok (.iconst 0, 1) := by decide +kernel
set_option maxRecDepth 20000 in
theorem dL_told_789 : decode cL_told 789 = .ok (.iaload, 1) := by decide +kernel
set_option maxRecDepth 20000 in
theorem dL_told_790 : decode cL_told 790 = .ok (.if_icmp .ge 42, 3) := by decide +kernel
set_option maxRecDepth 20000 in
theorem dL_told_793 : decode cL_told 793 = .ok (.aload_n 0, 1) := by decide +kernel
set_option maxRecDepth 20000 in
theorem dL_told_794 : decode cL_told 794 = .ok (.iconst 0, 1) := by decide +kernel
set_option maxRecDepth 20000 in
theorem dL_told_795 : decode cL_told 795 = .ok (.iload 4, 2) := by decide +kernel
set_option maxRecDepth 20000 in
theorem dL_told_797 : decode cL_told 797 = .ok (.iconst 0, 1) := by decide +kernel
set_option maxRecDepth 20000 in
theorem dL_told_798 : decode cL_told 798 = .ok (.invokevirtual 83, 3) := by decide +kernel
set_option maxRecDepth 20000 in
theorem dL_told_801 : decode cL_told 801 = .ok (.iload 4, 2) := by decide +kernel
set_option maxRecDepth 20000 in
theorem dL_told_803 : decode cL_told 803 = .ok (.if_icmp .ne 33, 3) := by decide +kernel
set_option maxRecDepth 20000 in
theorem dL_told_806 : decode cL_told 806 = .ok (.aload_n 0, 1) := by decide +kernel
set_option maxRecDepth 20000 in
theorem dL_told_807 : decode cL_told 807 = .ok (.iconst 0, 1) := by decide +kernel
set_option maxRecDepth 20000 in
theorem dL_told_808 : decode cL_told 808 = .ok (.iload 4, 2) := by decide +kernel
set_option maxRecDepth 20000 in
theorem dL_told_810 : decode cL_told 810 = .ok (.iconst 1, 1) := by decide +kernel
set_option maxRecDepth 20000 in
theorem dL_told_811 : decode cL_told 811 = .ok (.invokevirtual 83, 3) := by decide +kernel
set_option maxRecDepth 20000 in
theorem dL_told_814 : decode cL_told 814 = .ok (.iload 4, 2) := by decide +kernel
set_option maxRecDepth 20000 in
theorem dL_told_816 : decode cL_told 816 = .ok (.if_icmp .ne 20, 3) := by decide +kernel
set_option maxRecDepth 20000 in
theorem dL_told_819 : decode cL_told 819 = .ok (.aload_n 0, 1) := by decide +kernel
set_option maxRecDepth 20000 in
theorem dL_told_820 : decode cL_told 820 = .ok (.iconst 0, 1) := by decide +kernel
set_option maxRecDepth 20000 in
theorem dL_told_821 : decode cL_told 821 = .ok (.iload 4, 2) := by decide +kernel
set_option maxRecDepth 20000 in
theorem dL_told_823 : decode cL_told 823 = .ok (.iconst 2, 1) := by decide +kernel
set_option maxRecDepth 20000 in
theorem dL_told_824 : decode cL_told 824 = .ok (.invokevirtual 83, 3) := by decide +kernel
set_option maxRecDepth 20000 in
theorem dL_told_827 : decode cL_told 827 = .ok (.ldc 86, 2) := by decide +kernel
set_option maxRecDepth 20000 in
theorem dL_told_829 : decode cL_told 829 = .ok (.if_icmp .ne 7, 3) := by decide +kernel
set_option maxRecDepth 20000 in
theorem dL_told_832 : decode cL_told 832 = .ok (.iconst 1, 1) := by decide +kernel
set_option maxRecDepth 20000 in
theorem dL_told_833 : decode cL_told 833 = .ok (.goto 4, 3) := by decide +kernel
set_option maxRecDepth 20000 in
theorem dL_told_836 : decode cL_told 836 = .ok (.iconst 0, 1) := by decide +kernel
set_option maxRecDepth 20000 in
theorem dL_told_837 : decode cL_told 837 = .ok (.istore_n 3, 1) := by decide +kernel
set_option maxRecDepth 20000 in
theorem dL_told_838 : decode cL_told 838 = .ok (.iinc 4 1, 3) := by decide +kernel
set_option maxRecDepth 20000 in
theorem dL_told_841 : decode cL_told 841 = .ok (.goto (-143), 3) := by decide +kernel
set_option maxRecDepth 20000 in
theorem dL_told_844 : decode cL_told 844 = .ok (.iload_n 3, 1) := by decide +kernel
set_option maxRecDepth 20000 in
theorem dL_told_845 : decode cL_told 845 = .ok (.ireturn, 1) := by decide +kernel
set_option maxRecDepth 20000 in
theorem dL_noted_0 : decode cL_noted 0 = .ok (.aload_n 0, 1) := by decide +kernel
set_option maxRecDepth 20000 in
theorem dL_noted_1 : decode cL_noted 1 = .ok (.iconst 3, 1) := by decide +kernel
set_option maxRecDepth 20000 in
theorem dL_noted_2 : decode cL_noted 2 = .ok (.dup2, 1) := by decide +kernel
set_option maxRecDepth 20000 in
theorem dL_noted_3 : decode cL_noted 3 = .ok (.iaload, 1) := by decide +kernel
set_option maxRecDepth 20000 in
theorem dL_noted_4 : decode cL_noted 4 = .ok (.aload_n 0, 1) := by decide +kernel
set_option maxRecDepth 20000 in
theorem dL_noted_5 : decode cL_noted 5 = .ok (.iconst 3, 1) := by decide +kernel
set_option maxRecDepth 20000 in
theorem dL_noted_6 : decode cL_noted 6 = .ok (.iaload, 1) := by decide +kernel
set_option maxRecDepth 20000 in
theorem dL_noted_7 : decode cL_noted 7 = .ok (.bipush 8, 2) := by decide +kernel
set_option maxRecDepth 20000 in
theorem dL_noted_9 : decode cL_noted 9 = .ok (.if_icmp .ge 7, 3) := by decide +kernel
set_option maxRecDepth 20000 in
theorem dL_noted_12 : decode cL_noted 12 = .ok (.iconst 1, 1) := by decide +kernel
set_option maxRecDepth 20000 in
theorem dL_noted_13 : decode cL_noted 13 = .ok (.goto 4, 3) := by decide +kernel
set_option maxRecDepth 20000 in
theorem dL_noted_16 : decode cL_noted 16 = .ok (.iconst 0, 1) := by decide +kernel
set_option maxRecDepth 20000 in
theorem dL_noted_17 : decode cL_noted 17 = .ok (.iadd, 1) := by decide +kernel
set_option maxRecDepth 20000 in
theorem dL_noted_18 : decode cL_noted 18 = .ok (.iastore, 1) := by decide +kernel
set_option maxRecDepth 20000 in
theorem dL_noted_19 : decode cL_noted 19 = .ok (.iload_n 1, 1) := by decide +kernel
set_option maxRecDepth 20000 in
theorem dL_noted_20 : decode cL_noted 20 = .ok (.ireturn, 1) := by decide +kernel
set_option maxRecDepth 20000 in
theorem dL_others_0 : decode cL_others 0 = .ok (.iconst 0, 1) := by decide +kernel
set_option maxRecDepth 20000 in
theorem dL_others_1 : decode cL_others 1 = .ok (.istore_n 3, 1) := by decide +kernel
set_option maxRecDepth 20000 in
theorem dL_others_2 : decode cL_others 2 = .ok (.iconst 0, 1) := by decide +kernel
set_option maxRecDepth 20000 in
theorem dL_others_3 : decode cL_others 3 = .ok (.istore 4, 2) := by decide +kernel
set_option maxRecDepth 20000 in
theorem dL_others_5 : decode cL_others 5 = .ok (.iload 4, 2) := by decide +kernel
set_option maxRecDepth 20000 in
theorem dL_others_7 : decode cL_others 7 = .ok (.aload_n 0, 1) := by decide +kernel
set_option maxRecDepth 20000 in
theorem dL_others_8 : decode cL_others 8 = .ok (.iconst 1, 1) := by decide +kernel
set_option maxRecDepth 20000 in
theorem dL_others_9 : decode cL_others 9 = .ok (.iaload, 1) := by decide +kernel
set_option maxRecDepth 20000 in
theorem dL_others_10 : decode cL_others 10 = .ok (.if_icmp .ge 29, 3) := by decide +kernel
set_option maxRecDepth 20000 in
theorem dL_others_13 : decode cL_others 13 = .ok (.iload_n 3, 1) := by decide +kernel
set_option maxRecDepth 20000 in
theorem dL_others_14 : decode cL_others 14 = .ok (.aload_n 1, 1) := by decide +kernel
set_option maxRecDepth 20000 in
theorem dL_others_15 : decode cL_others 15 = .ok (.bipush 6, 2) := by decide +kernel
set_option maxRecDepth 20000 in
theorem dL_others_17 : decode cL_others 17 = .ok (.iload_n 2, 1) := by decide +kernel
set_option maxRecDepth 20000 in
theorem dL_others_18 : decode cL_others 18 = .ok (.imul, 1) := by decide +kernel
set_option maxRecDepth 20000 in
theorem dL_others_19 : decode cL_others 19 = .ok (.iload 4, 2) := by decide +kernel
set_option maxRecDepth 20000 in
theorem dL_others_21 : decode cL_others 21 = .ok (.iadd, 1) := by decide +kernel
set_option maxRecDepth 20000 in
theorem dL_others_22 : decode cL_others 22 = .ok (.iaload, 1) := by decide +kernel
set_option maxRecDepth 20000 in
theorem dL_others_23 : decode cL_others 23 = .ok (.ifCond .ne 7, 3) := by decide +kernel
set_option maxRecDepth 20000 in
theorem dL_others_26 : decode cL_others 26 = .ok (.iconst 0, 1) := by decide +kernel
set_option maxRecDepth 20000 in
theorem dL_others_27 : decode cL_others 27 = .ok (.goto 4, 3) := by decide +kernel
set_option maxRecDepth 20000 in
theorem dL_others_30 : decode cL_others 30 = .ok (.iconst 1, 1) := by decide +kernel
set_option maxRecDepth 20000 in
theorem dL_others_31 : decode cL_others 31 = .ok (.iadd, 1) := by decide +kernel
set_option maxRecDepth 20000 in
theorem dL_others_32 : decode cL_others 32 = .ok (.istore_n 3, 1) := by decide +kernel
set_option maxRecDepth 20000 in
theorem dL_others_33 : decode cL_others 33 = .ok (.iinc 4 1, 3) := by decide +kernel
set_option maxRecDepth 20000 in
theorem dL_others_36 : decode cL_others 36 = .ok (.goto (-31), 3) := by decide +kernel
set_option maxRecDepth 20000 in
theorem dL_others_39 : decode cL_others 39 = .ok (.iload_n 3, 1) := by decide +kernel
set_option maxRecDepth 20000 in
theorem dL_others_40 : decode cL_others 40 = .ok (.ireturn, 1) := by decide +kernel
set_option maxRecDepth 20000 in
theorem dL_gone_0 : decode cL_gone 0 = .ok (.iload_n 2, 1) := by decide +kernel
set_option maxRecDepth 20000 in
theorem dL_gone_1 : decode cL_gone 1 = .ok (.iconst 2, 1) := by decide +kernel
set_option maxRecDepth 20000 in
theorem dL_gone_2 : decode cL_gone 2 = .ok (.if_icmp .ne 47, 3) := by decide +kernel
set_option maxRecDepth 20000 in
theorem dL_gone_5 : decode cL_gone 5 = .ok (.bipush 22, 2) := by decide +kernel
set_option maxRecDepth 20000 in
theorem dL_gone_7 : decode cL_gone 7 = .ok (.bipush 6, 2) := by decide +kernel
set_option maxRecDepth 20000 in
theorem dL_gone_9 : decode cL_gone 9 = .ok (.iload_n 3, 1) := by decide +kernel
set_option maxRecDepth 20000 in
theorem dL_gone_10 : decode cL_gone 10 = .ok (.imul, 1) := by decide +kernel
set_option maxRecDepth 20000 in
theorem dL_gone_11 : decode cL_gone 11 = .ok (.iadd, 1) := by decide +kernel
set_option maxRecDepth 20000 in
theorem dL_gone_12 : decode cL_gone 12 = .ok (.istore 4, 2) := by decide +kernel
set_option maxRecDepth 20000 in
theorem dL_gone_14 : decode cL_gone 14 = .ok (.iload 4, 2) := by decide +kernel
set_option maxRecDepth 20000 in
theorem dL_gone_16 : decode cL_gone 16 = .ok (.bipush 40, 2) := by decide +kernel
set_option maxRecDepth 20000 in
theorem dL_gone_18 : decode cL_gone 18 = .ok (.if_icmp .ge 20, 3) := by decide +kernel
set_option maxRecDepth 20000 in
theorem dL_gone_21 : decode cL_gone 21 = .ok (.aload_n 0, 1) := by decide +kernel
set_option maxRecDepth 20000 in
theorem dL_gone_22 : decode cL_gone 22 = .ok (.iload 4, 2) := by decide +kernel
set_option maxRecDepth 20000 in
theorem dL_gone_24 : decode cL_gone 24 = .ok (.aload_n 0, 1) := by decide +kernel
set_option maxRecDepth 20000 in
theorem dL_gone_25 : decode cL_gone 25 = .ok (.iload 4, 2) := by decide +kernel
set_option maxRecDepth 20000 in
theorem dL_gone_27 : decode cL_gone 27 = .ok (.bipush 6, 2) := by decide +kernel
set_option maxRecDepth 20000 in
theorem dL_gone_29 : decode cL_gone 29 = .ok (.iadd, 1) := by decide +kernel
set_option maxRecDepth 20000 in
theorem dL_gone_30 : decode cL_gone 30 = .ok (.iaload, 1) := by decide +kernel
set_option maxRecDepth 20000 in
theorem dL_gone_31 : decode cL_gone 31 = .ok (.iastore, 1) := by decide +kernel
set_option maxRecDepth 20000 in
theorem dL_gone_32 : decode cL_gone 32 = .ok (.iinc 4 1, 3) := by decide +kernel
set_option maxRecDepth 20000 in
theorem dL_gone_35 : decode cL_gone 35 = .ok (.goto (-21), 3) := by decide +kernel
set_option maxRecDepth 20000 in
theorem dL_gone_38 : decode cL_gone 38 = .ok (.aload_n 0, 1) := by decide +kernel
set_option maxRecDepth 20000 in
theorem dL_gone_39 : decode cL_gone 39 = .ok (.iconst 2, 1) := by decide +kernel
set_option maxRecDepth 20000 in
theorem dL_gone_40 : decode cL_gone 40 = .ok (.dup2, 1) := by decide +kernel
set_option maxRecDepth 20000 in
theorem dL_gone_41 : decode cL_gone 41 = .ok (.iaload, 1) := by decide +kernel
set_option maxRecDepth 20000 in
theorem dL_gone_42 : decode cL_gone 42 = .ok (.iconst 1, 1) := by decide +kernel
set_option maxRecDepth 20000 in
theorem dL_gone_43 : decode cL_gone 43 = .ok (.isub, 1) := by decide +kernel
set_option maxRecDepth 20000 in
theorem dL_gone_44 : decode cL_gone 44 = .ok (.iastore, 1) := by decide +kernel
set_option maxRecDepth 20000 in
theorem dL_gone_45 : decode cL_gone 45 = .ok (.aload_n 0, 1) := by decide +kernel
set_option maxRecDepth 20000 in
theorem dL_gone_46 : decode cL_gone 46 = .ok (.iconst 2, 1) := by decide +kernel
set_option maxRecDepth 20000 in
theorem dL_gone_47 : decode cL_gone 47 = .ok (.iaload, 1) := by decide +kernel
set_option maxRecDepth 20000 in
theorem dL_gone_48 : decode cL_gone 48 = .ok (.ireturn, 1) := by decide +kernel
set_option maxRecDepth 20000 in
theorem dL_gone_49 : decode cL_gone 49 = .ok (.iconst 4, 1) := by decide +kernel
set_option maxRecDepth 20000 in
theorem dL_gone_50 : decode cL_gone 50 = .ok (.iconst 3, 1) := by decide +kernel
set_option maxRecDepth 20000 in
theorem dL_gone_51 : decode cL_gone 51 = .ok (.iload_n 3, 1) := by decide +kernel
set_option maxRecDepth 20000 in
theorem dL_gone_52 : decode cL_gone 52 = .ok (.imul, 1) := by decide +kernel
set_option maxRecDepth 20000 in
theorem dL_gone_53 : decode cL_gone 53 = .ok (.iadd, 1) := by decide +kernel
set_option maxRecDepth 20000 in
theorem dL_gone_54 : decode cL_gone 54 = .ok (.istore 4, 2) := by decide +kernel
set_option maxRecDepth 20000 in
theorem dL_gone_56 : decode cL_gone 56 = .ok (.iload 4, 2) := by decide +kernel
set_option maxRecDepth 20000 in
theorem dL_gone_58 : decode cL_gone 58 = .ok (.bipush 19, 2) := by decide +kernel
set_option maxRecDepth 20000 in
theorem dL_gone_60 : decode cL_gone 60 = .ok (.if_icmp .ge 19, 3) := by decide +kernel
set_option maxRecDepth 20000 in
theorem dL_gone_63 : decode cL_gone 63 = .ok (.aload_n 0, 1) := by decide +kernel
set_option maxRecDepth 20000 in
theorem dL_gone_64 : decode cL_gone 64 = .ok (.iload 4, 2) := by decide +kernel
set_option maxRecDepth 20000 in
theorem dL_gone_66 : decode cL_gone 66 = .ok (.aload_n 0, 1) := by decide +kernel
set_option maxRecDepth 20000 in
theorem dL_gone_67 : decode cL_gone 67 = .ok (.iload 4, 2) := by decide +kernel
set_option maxRecDepth 20000 in
theorem dL_gone_69 : decode cL_gone 69 = .ok (.iconst 3, 1) := by decide +kernel
set_option maxRecDepth 20000 in
theorem dL_gone_70 : decode cL_gone 70 = .ok (.iadd, 1) := by decide +kernel
set_option maxRecDepth 20000 in
theorem dL_gone_71 : decode cL_gone 71 = .ok (.iaload, 1) := by decide +kernel
set_option maxRecDepth 20000 in
theorem dL_gone_72 : decode cL_gone 72 = .ok (.iastore, 1) := by decide +kernel
set_option maxRecDepth 20000 in
theorem dL_gone_73 : decode cL_gone 73 = .ok (.iinc 4 1, 3) := by decide +kernel
set_option maxRecDepth 20000 in
theorem dL_gone_76 : decode cL_gone 76 = .ok (.goto (-20), 3) := by decide +kernel
set_option maxRecDepth 20000 in
theorem dL_gone_79 : decode cL_gone 79 = .ok (.iconst 0, 1) := by decide +kernel
set_option maxRecDepth 20000 in
theorem dL_gone_80 : decode cL_gone 80 = .ok (.istore 4, 2) := by decide +kernel
set_option maxRecDepth 20000 in
theorem dL_gone_82 : decode cL_gone 82 = .ok (.iload 4, 2) := by decide +kernel
set_option maxRecDepth 20000 in
theorem dL_gone_84 : decode cL_gone 84 = .ok (.bipush 18, 2) := by decide +kernel
set_option maxRecDepth 20000 in
theorem dL_gone_86 : decode cL_gone 86 = .ok (.if_icmp .ge 48, 3) := by decide +kernel
set_option maxRecDepth 20000 in
theorem dL_gone_89 : decode cL_gone 89 = .ok (.aload_n 1, 1) := by decide +kernel
set_option maxRecDepth 20000 in
theorem dL_gone_90 : decode cL_gone 90 = .ok (.iload 4, 2) := by decide +kernel
set_option maxRecDepth 20000 in
theorem dL_gone_92 : decode cL_gone 92 = .ok (.iload 4, 2) := by decide +kernel
set_option maxRecDepth 20000 in
theorem dL_gone_94 : decode cL_gone 94 = .ok (.bipush 6, 2) := by decide +kernel
set_option maxRecDepth 20000 in
theorem dL_gone_96 : decode cL_gone 96 = .ok (.irem, 1) := by decide +kernel
set_option maxRecDepth 20000 in
theorem dL_gone_97 : decode cL_gone 97 = .ok (.iload_n 3, 1) := by decide +kernel
set_option maxRecDepth 20000 in
theorem dL_gone_98 : decode cL_gone 98 = .ok (.if_icmp .ge 10, 3) := by decide +kernel
set_option maxRecDepth 20000 in
theorem dL_gone_101 : decode cL_gone 101 = .ok (.aload_n 1, 1) := by decide +kernel
set_option maxRecDepth 20000 in
theorem dL_gone_102 : decode cL_gone 102 = .ok (.iload 4, 2) := by decide +kernel
set_option maxRecDepth 20000 in
theorem dL_gone_104 : decode cL_gone 104 = .ok (.iaload, 1) := by decide +kernel
set_option maxRecDepth 20000 in
theorem dL_gone_105 : decode cL_gone 105 = .ok (.goto 22, 3) := by decide +kernel
set_option maxRecDepth 20000 in
theorem dL_gone_108 : decode cL_gone 108 = .ok (.iload 4, 2) := by decide +kernel
set_option maxRecDepth 20000 in
theorem dL_gone_110 : decode cL_gone 110 = .ok (.bipush 6, 2) := by decide +kernel
set_option maxRecDepth 20000 in
theorem dL_gone_112 : decode cL_gone 112 = .ok (.irem, 1) := by decide +kernel
set_option maxRecDepth 20000 in
theorem dL_gone_113 : decode cL_gone 113 = .ok (.iconst 5, 1) := by decide +kernel
set_option maxRecDepth 20000 in
theorem dL_gone_114 : decode cL_gone 114 = .ok (.if_icmp .ge 12, 3) := by decide +kernel
set_option maxRecDepth 20000 in
theorem dL_gone_117 : decode cL_gone 117 = .ok (.aload_n 1, 1) := by decide +kernel
set_option maxRecDepth 20000 in
theorem dL_gone_118 : decode cL_gone 118 = .ok (.iload 4, 2) := by decide +kernel
set_option maxRecDepth 20000 in
theorem dL_gone_120 : decode cL_gone 120 = .ok (.iconst 1, 1) := by decide +kernel
set_option maxRecDepth 20000 in
theorem dL_gone_121 : decode cL_gone 121 = .ok (.iadd, 1) := by decide +kernel
