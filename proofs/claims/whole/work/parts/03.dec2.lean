set_option maxRecDepth 20000 in
theorem dX6_dropsEdge_64 : decode cX6_dropsEdge 64 = .ok (.aload_n 0, 1) := by decide +kernel
set_option maxRecDepth 20000 in
theorem dX6_dropsEdge_65 : decode cX6_dropsEdge 65 = .ok (.getfield 7, 3) := by decide +kernel
set_option maxRecDepth 20000 in
theorem dX6_dropsEdge_68 : decode cX6_dropsEdge 68 = .ok (.bipush 45, 2) := by decide +kernel
set_option maxRecDepth 20000 in
theorem dX6_dropsEdge_70 : decode cX6_dropsEdge 70 = .ok (.iload_n 2, 1) := by decide +kernel
set_option maxRecDepth 20000 in
theorem dX6_dropsEdge_71 : decode cX6_dropsEdge 71 = .ok (.iadd, 1) := by decide +kernel
set_option maxRecDepth 20000 in
theorem dX6_dropsEdge_72 : decode cX6_dropsEdge 72 = .ok (.iload_n 2, 1) := by decide +kernel
set_option maxRecDepth 20000 in
theorem dX6_dropsEdge_73 : decode cX6_dropsEdge 73 = .ok (.bipush 6, 2) := by decide +kernel
set_option maxRecDepth 20000 in
theorem dX6_dropsEdge_75 : decode cX6_dropsEdge 75 = .ok (.irem, 1) := by decide +kernel
set_option maxRecDepth 20000 in
theorem dX6_dropsEdge_76 : decode cX6_dropsEdge 76 = .ok (.iload_n 1, 1) := by decide +kernel
set_option maxRecDepth 20000 in
theorem dX6_dropsEdge_77 : decode cX6_dropsEdge 77 = .ok (.if_icmp .ge 15, 3) := by decide +kernel
set_option maxRecDepth 20000 in
theorem dX6_dropsEdge_80 : decode cX6_dropsEdge 80 = .ok (.aload_n 0, 1) := by decide +kernel
set_option maxRecDepth 20000 in
theorem dX6_dropsEdge_81 : decode cX6_dropsEdge 81 = .ok (.getfield 7, 3) := by decide +kernel
set_option maxRecDepth 20000 in
theorem dX6_dropsEdge_84 : decode cX6_dropsEdge 84 = .ok (.bipush 45, 2) := by decide +kernel
set_option maxRecDepth 20000 in
theorem dX6_dropsEdge_86 : decode cX6_dropsEdge 86 = .ok (.iload_n 2, 1) := by decide +kernel
set_option maxRecDepth 20000 in
theorem dX6_dropsEdge_87 : decode cX6_dropsEdge 87 = .ok (.iadd, 1) := by decide +kernel
set_option maxRecDepth 20000 in
theorem dX6_dropsEdge_88 : decode cX6_dropsEdge 88 = .ok (.iaload, 1) := by decide +kernel
set_option maxRecDepth 20000 in
theorem dX6_dropsEdge_89 : decode cX6_dropsEdge 89 = .ok (.goto 4, 3) := by decide +kernel
set_option maxRecDepth 20000 in
theorem dX6_dropsEdge_92 : decode cX6_dropsEdge 92 = .ok (.iload_n 3, 1) := by decide +kernel
set_option maxRecDepth 20000 in
theorem dX6_dropsEdge_93 : decode cX6_dropsEdge 93 = .ok (.iastore, 1) := by decide +kernel
set_option maxRecDepth 20000 in
theorem dX6_dropsEdge_94 : decode cX6_dropsEdge 94 = .ok (.iinc 2 1, 3) := by decide +kernel
set_option maxRecDepth 20000 in
theorem dX6_dropsEdge_97 : decode cX6_dropsEdge 97 = .ok (.goto (-63), 3) := by decide +kernel
set_option maxRecDepth 20000 in
theorem dX6_dropsEdge_100 : decode cX6_dropsEdge 100 = .ok (.iconst 0, 1) := by decide +kernel
set_option maxRecDepth 20000 in
theorem dX6_dropsEdge_101 : decode cX6_dropsEdge 101 = .ok (.istore_n 2, 1) := by decide +kernel
set_option maxRecDepth 20000 in
theorem dX6_dropsEdge_102 : decode cX6_dropsEdge 102 = .ok (.iload_n 2, 1) := by decide +kernel
set_option maxRecDepth 20000 in
theorem dX6_dropsEdge_103 : decode cX6_dropsEdge 103 = .ok (.iconst 4, 1) := by decide +kernel
set_option maxRecDepth 20000 in
theorem dX6_dropsEdge_104 : decode cX6_dropsEdge 104 = .ok (.aload_n 0, 1) := by decide +kernel
set_option maxRecDepth 20000 in
theorem dX6_dropsEdge_105 : decode cX6_dropsEdge 105 = .ok (.getfield 7, 3) := by decide +kernel
set_option maxRecDepth 20000 in
theorem dX6_dropsEdge_108 : decode cX6_dropsEdge 108 = .ok (.iconst 2, 1) := by decide +kernel
set_option maxRecDepth 20000 in
theorem dX6_dropsEdge_109 : decode cX6_dropsEdge 109 = .ok (.iaload, 1) := by decide +kernel
set_option maxRecDepth 20000 in
theorem dX6_dropsEdge_110 : decode cX6_dropsEdge 110 = .ok (.imul, 1) := by decide +kernel
set_option maxRecDepth 20000 in
theorem dX6_dropsEdge_111 : decode cX6_dropsEdge 111 = .ok (.if_icmp .ge 85, 3) := by decide +kernel
set_option maxRecDepth 20000 in
theorem dX6_dropsEdge_114 : decode cX6_dropsEdge 114 = .ok (.bipush 21, 2) := by decide +kernel
set_option maxRecDepth 20000 in
theorem dX6_dropsEdge_116 : decode cX6_dropsEdge 116 = .ok (.bipush 6, 2) := by decide +kernel
set_option maxRecDepth 20000 in
theorem dX6_dropsEdge_118 : decode cX6_dropsEdge 118 = .ok (.iload_n 2, 1) := by decide +kernel
set_option maxRecDepth 20000 in
theorem dX6_dropsEdge_119 : decode cX6_dropsEdge 119 = .ok (.iconst 4, 1) := by decide +kernel
set_option maxRecDepth 20000 in
theorem dX6_dropsEdge_120 : decode cX6_dropsEdge 120 = .ok (.idiv, 1) := by decide +kernel
set_option maxRecDepth 20000 in
theorem dX6_dropsEdge_121 : decode cX6_dropsEdge 121 = .ok (.imul, 1) := by decide +kernel
set_option maxRecDepth 20000 in
theorem dX6_dropsEdge_122 : decode cX6_dropsEdge 122 = .ok (.iadd, 1) := by decide +kernel
set_option maxRecDepth 20000 in
theorem dX6_dropsEdge_123 : decode cX6_dropsEdge 123 = .ok (.iconst 2, 1) := by decide +kernel
set_option maxRecDepth 20000 in
theorem dX6_dropsEdge_124 : decode cX6_dropsEdge 124 = .ok (.iadd, 1) := by decide +kernel
set_option maxRecDepth 20000 in
theorem dX6_dropsEdge_125 : decode cX6_dropsEdge 125 = .ok (.iload_n 2, 1) := by decide +kernel
set_option maxRecDepth 20000 in
theorem dX6_dropsEdge_126 : decode cX6_dropsEdge 126 = .ok (.iconst 4, 1) := by decide +kernel
set_option maxRecDepth 20000 in
theorem dX6_dropsEdge_127 : decode cX6_dropsEdge 127 = .ok (.irem, 1) := by decide +kernel
set_option maxRecDepth 20000 in
theorem dX6_dropsEdge_128 : decode cX6_dropsEdge 128 = .ok (.iadd, 1) := by decide +kernel
set_option maxRecDepth 20000 in
theorem dX6_dropsEdge_129 : decode cX6_dropsEdge 129 = .ok (.istore_n 3, 1) := by decide +kernel
set_option maxRecDepth 20000 in
theorem dX6_dropsEdge_130 : decode cX6_dropsEdge 130 = .ok (.aload_n 0, 1) := by decide +kernel
set_option maxRecDepth 20000 in
theorem dX6_dropsEdge_131 : decode cX6_dropsEdge 131 = .ok (.getfield 7, 3) := by decide +kernel
set_option maxRecDepth 20000 in
theorem dX6_dropsEdge_134 : decode cX6_dropsEdge 134 = .ok (.iload_n 3, 1) := by decide +kernel
set_option maxRecDepth 20000 in
theorem dX6_dropsEdge_135 : decode cX6_dropsEdge 135 = .ok (.iaload, 1) := by decide +kernel
set_option maxRecDepth 20000 in
theorem dX6_dropsEdge_136 : decode cX6_dropsEdge 136 = .ok (.ifCond .ge 7, 3) := by decide +kernel
set_option maxRecDepth 20000 in
theorem dX6_dropsEdge_139 : decode cX6_dropsEdge 139 = .ok (.iconst 1, 1) := by decide +kernel
set_option maxRecDepth 20000 in
theorem dX6_dropsEdge_140 : decode cX6_dropsEdge 140 = .ok (.goto 4, 3) := by decide +kernel
set_option maxRecDepth 20000 in
theorem dX6_dropsEdge_143 : decode cX6_dropsEdge 143 = .ok (.iconst (-1), 1) := by decide +kernel
set_option maxRecDepth 20000 in
theorem dX6_dropsEdge_144 : decode cX6_dropsEdge 144 = .ok (.istore 4, 2) := by decide +kernel
set_option maxRecDepth 20000 in
theorem dX6_dropsEdge_146 : decode cX6_dropsEdge 146 = .ok (.aload_n 0, 1) := by decide +kernel
set_option maxRecDepth 20000 in
theorem dX6_dropsEdge_147 : decode cX6_dropsEdge 147 = .ok (.getfield 7, 3) := by decide +kernel
set_option maxRecDepth 20000 in
theorem dX6_dropsEdge_150 : decode cX6_dropsEdge 150 = .ok (.iload_n 3, 1) := by decide +kernel
set_option maxRecDepth 20000 in
theorem dX6_dropsEdge_151 : decode cX6_dropsEdge 151 = .ok (.dup2, 1) := by decide +kernel
set_option maxRecDepth 20000 in
theorem dX6_dropsEdge_152 : decode cX6_dropsEdge 152 = .ok (.iaload, 1) := by decide +kernel
set_option maxRecDepth 20000 in
theorem dX6_dropsEdge_153 : decode cX6_dropsEdge 153 = .ok (.iload_n 2, 1) := by decide +kernel
set_option maxRecDepth 20000 in
theorem dX6_dropsEdge_154 : decode cX6_dropsEdge 154 = .ok (.iconst 4, 1) := by decide +kernel
set_option maxRecDepth 20000 in
theorem dX6_dropsEdge_155 : decode cX6_dropsEdge 155 = .ok (.irem, 1) := by decide +kernel
set_option maxRecDepth 20000 in
theorem dX6_dropsEdge_156 : decode cX6_dropsEdge 156 = .ok (.aload_n 0, 1) := by decide +kernel
set_option maxRecDepth 20000 in
theorem dX6_dropsEdge_157 : decode cX6_dropsEdge 157 = .ok (.getfield 7, 3) := by decide +kernel
set_option maxRecDepth 20000 in
theorem dX6_dropsEdge_160 : decode cX6_dropsEdge 160 = .ok (.iload_n 2, 1) := by decide +kernel
set_option maxRecDepth 20000 in
theorem dX6_dropsEdge_161 : decode cX6_dropsEdge 161 = .ok (.iconst 4, 1) := by decide +kernel
set_option maxRecDepth 20000 in
theorem dX6_dropsEdge_162 : decode cX6_dropsEdge 162 = .ok (.idiv, 1) := by decide +kernel
set_option maxRecDepth 20000 in
theorem dX6_dropsEdge_163 : decode cX6_dropsEdge 163 = .ok (.invokestatic 60, 3) := by decide +kernel
set_option maxRecDepth 20000 in
theorem dX6_dropsEdge_166 : decode cX6_dropsEdge 166 = .ok (.if_icmp .ge 21, 3) := by decide +kernel
set_option maxRecDepth 20000 in
theorem dX6_dropsEdge_169 : decode cX6_dropsEdge 169 = .ok (.aload_n 0, 1) := by decide +kernel
set_option maxRecDepth 20000 in
theorem dX6_dropsEdge_170 : decode cX6_dropsEdge 170 = .ok (.getfield 7, 3) := by decide +kernel
set_option maxRecDepth 20000 in
theorem dX6_dropsEdge_173 : decode cX6_dropsEdge 173 = .ok (.iload_n 3, 1) := by decide +kernel
set_option maxRecDepth 20000 in
theorem dX6_dropsEdge_174 : decode cX6_dropsEdge 174 = .ok (.iaload, 1) := by decide +kernel
set_option maxRecDepth 20000 in
theorem dX6_dropsEdge_175 : decode cX6_dropsEdge 175 = .ok (.invokestatic 52, 3) := by decide +kernel
set_option maxRecDepth 20000 in
theorem dX6_dropsEdge_178 : decode cX6_dropsEdge 178 = .ok (.iload_n 1, 1) := by decide +kernel
set_option maxRecDepth 20000 in
theorem dX6_dropsEdge_179 : decode cX6_dropsEdge 179 = .ok (.if_icmp .le 8, 3) := by decide +kernel
set_option maxRecDepth 20000 in
theorem dX6_dropsEdge_182 : decode cX6_dropsEdge 182 = .ok (.iload 4, 2) := by decide +kernel
set_option maxRecDepth 20000 in
theorem dX6_dropsEdge_184 : decode cX6_dropsEdge 184 = .ok (.goto 4, 3) := by decide +kernel
set_option maxRecDepth 20000 in
theorem dX6_dropsEdge_187 : decode cX6_dropsEdge 187 = .ok (.iconst 0, 1) := by decide +kernel
set_option maxRecDepth 20000 in
theorem dX6_dropsEdge_188 : decode cX6_dropsEdge 188 = .ok (.iadd, 1) := by decide +kernel
set_option maxRecDepth 20000 in
theorem dX6_dropsEdge_189 : decode cX6_dropsEdge 189 = .ok (.iastore, 1) := by decide +kernel
set_option maxRecDepth 20000 in
theorem dX6_dropsEdge_190 : decode cX6_dropsEdge 190 = .ok (.iinc 2 1, 3) := by decide +kernel
set_option maxRecDepth 20000 in
theorem dX6_dropsEdge_193 : decode cX6_dropsEdge 193 = .ok (.goto (-91), 3) := by decide +kernel
set_option maxRecDepth 20000 in
theorem dX6_dropsEdge_196 : decode cX6_dropsEdge 196 = .ok (.aload_n 0, 1) := by decide +kernel
set_option maxRecDepth 20000 in
theorem dX6_dropsEdge_197 : decode cX6_dropsEdge 197 = .ok (.getfield 7, 3) := by decide +kernel
set_option maxRecDepth 20000 in
theorem dX6_dropsEdge_200 : decode cX6_dropsEdge 200 = .ok (.iconst 1, 1) := by decide +kernel
set_option maxRecDepth 20000 in
theorem dX6_dropsEdge_201 : decode cX6_dropsEdge 201 = .ok (.dup2, 1) := by decide +kernel
set_option maxRecDepth 20000 in
theorem dX6_dropsEdge_202 : decode cX6_dropsEdge 202 = .ok (.iaload, 1) := by decide +kernel
set_option maxRecDepth 20000 in
theorem dX6_dropsEdge_203 : decode cX6_dropsEdge 203 = .ok (.iconst 1, 1) := by decide +kernel
set_option maxRecDepth 20000 in
theorem dX6_dropsEdge_204 : decode cX6_dropsEdge 204 = .ok (.isub, 1) := by decide +kernel
set_option maxRecDepth 20000 in
theorem dX6_dropsEdge_205 : decode cX6_dropsEdge 205 = .ok (.iastore, 1) := by decide +kernel
set_option maxRecDepth 20000 in
theorem dX6_dropsEdge_206 : decode cX6_dropsEdge 206 = .ok (.return_, 1) := by decide +kernel
set_option maxRecDepth 20000 in
theorem dX6_drop_0 : decode cX6_drop 0 = .ok (.iload_n 1, 1) := by decide +kernel
set_option maxRecDepth 20000 in
theorem dX6_drop_1 : decode cX6_drop 1 = .ok (.ifCond .eq 12, 3) := by decide +kernel
set_option maxRecDepth 20000 in
theorem dX6_drop_4 : decode cX6_drop 4 = .ok (.aload_n 0, 1) := by decide +kernel
set_option maxRecDepth 20000 in
theorem dX6_drop_5 : decode cX6_drop 5 = .ok (.iload_n 1, 1) := by decide +kernel
set_option maxRecDepth 20000 in
theorem dX6_drop_6 : decode cX6_drop 6 = .ok (.iload_n 2, 1) := by decide +kernel
set_option maxRecDepth 20000 in
theorem dX6_drop_7 : decode cX6_drop 7 = .ok (.invokevirtual 247, 3) := by decide +kernel
set_option maxRecDepth 20000 in
theorem dX6_drop_10 : decode cX6_drop 10 = .ok (.ifCond .ne 6, 3) := by decide +kernel
set_option maxRecDepth 20000 in
theorem dX6_drop_13 : decode cX6_drop 13 = .ok (.ldc 218, 2) := by decide +kernel
set_option maxRecDepth 20000 in
theorem dX6_drop_15 : decode cX6_drop 15 = .ok (.ireturn, 1) := by decide +kernel
set_option maxRecDepth 20000 in
theorem dX6_drop_16 : decode cX6_drop 16 = .ok (.iload_n 1, 1) := by decide +kernel
set_option maxRecDepth 20000 in
theorem dX6_drop_17 : decode cX6_drop 17 = .ok (.iconst 1, 1) := by decide +kernel
set_option maxRecDepth 20000 in
theorem dX6_drop_18 : decode cX6_drop 18 = .ok (.if_icmp .ne 14, 3) := by decide +kernel
set_option maxRecDepth 20000 in
theorem dX6_drop_21 : decode cX6_drop 21 = .ok (.aload_n 0, 1) := by decide +kernel
set_option maxRecDepth 20000 in
theorem dX6_drop_22 : decode cX6_drop 22 = .ok (.iload_n 2, 1) := by decide +kernel
set_option maxRecDepth 20000 in
theorem dX6_drop_23 : decode cX6_drop 23 = .ok (.invokevirtual 260, 3) := by decide +kernel
set_option maxRecDepth 20000 in
theorem dX6_drop_26 : decode cX6_drop 26 = .ok (.ifCond .eq 6, 3) := by decide +kernel
set_option maxRecDepth 20000 in
theorem dX6_drop_29 : decode cX6_drop 29 = .ok (.ldc 241, 2) := by decide +kernel
set_option maxRecDepth 20000 in
theorem dX6_drop_31 : decode cX6_drop 31 = .ok (.ireturn, 1) := by decide +kernel
set_option maxRecDepth 20000 in
theorem dX6_drop_32 : decode cX6_drop 32 = .ok (.aload_n 0, 1) := by decide +kernel
set_option maxRecDepth 20000 in
theorem dX6_drop_33 : decode cX6_drop 33 = .ok (.invokevirtual 252, 3) := by decide +kernel
set_option maxRecDepth 20000 in
theorem dX6_drop_36 : decode cX6_drop 36 = .ok (.iload_n 1, 1) := by decide +kernel
set_option maxRecDepth 20000 in
theorem dX6_drop_37 : decode cX6_drop 37 = .ok (.iconst 1, 1) := by decide +kernel
set_option maxRecDepth 20000 in
theorem dX6_drop_38 : decode cX6_drop 38 = .ok (.if_icmp .ne 15, 3) := by decide +kernel
set_option maxRecDepth 20000 in
theorem dX6_drop_41 : decode cX6_drop 41 = .ok (.aload_n 0, 1) := by decide +kernel
set_option maxRecDepth 20000 in
theorem dX6_drop_42 : decode cX6_drop 42 = .ok (.iload_n 2, 1) := by decide +kernel
set_option maxRecDepth 20000 in
theorem dX6_drop_43 : decode cX6_drop 43 = .ok (.invokevirtual 263, 3) := by decide +kernel
set_option maxRecDepth 20000 in
theorem dX6_drop_46 : decode cX6_drop 46 = .ok (.aload_n 0, 1) := by decide +kernel
set_option maxRecDepth 20000 in
theorem dX6_drop_47 : decode cX6_drop 47 = .ok (.getfield 7, 3) := by decide +kernel
set_option maxRecDepth 20000 in
theorem dX6_drop_50 : decode cX6_drop 50 = .ok (.iconst 1, 1) := by decide +kernel
set_option maxRecDepth 20000 in
theorem dX6_drop_51 : decode cX6_drop 51 = .ok (.iaload, 1) := by decide +kernel
set_option maxRecDepth 20000 in
theorem dX6_drop_52 : decode cX6_drop 52 = .ok (.ireturn, 1) := by decide +kernel
set_option maxRecDepth 20000 in
theorem dX6_drop_53 : decode cX6_drop 53 = .ok (.bipush 21, 2) := by decide +kernel
set_option maxRecDepth 20000 in
theorem dX6_drop_55 : decode cX6_drop 55 = .ok (.bipush 6, 2) := by decide +kernel
set_option maxRecDepth 20000 in
theorem dX6_drop_57 : decode cX6_drop 57 = .ok (.iload_n 2, 1) := by decide +kernel
set_option maxRecDepth 20000 in
theorem dX6_drop_58 : decode cX6_drop 58 = .ok (.imul, 1) := by decide +kernel
set_option maxRecDepth 20000 in
theorem dX6_drop_59 : decode cX6_drop 59 = .ok (.iadd, 1) := by decide +kernel
set_option maxRecDepth 20000 in
theorem dX6_drop_60 : decode cX6_drop 60 = .ok (.istore_n 3, 1) := by decide +kernel
set_option maxRecDepth 20000 in
theorem dX6_drop_61 : decode cX6_drop 61 = .ok (.iload_n 3, 1) := by decide +kernel
set_option maxRecDepth 20000 in
theorem dX6_drop_62 : decode cX6_drop 62 = .ok (.bipush 39, 2) := by decide +kernel
set_option maxRecDepth 20000 in
theorem dX6_drop_64 : decode cX6_drop 64 = .ok (.if_icmp .ge 24, 3) := by decide +kernel
set_option maxRecDepth 20000 in
theorem dX6_drop_67 : decode cX6_drop 67 = .ok (.aload_n 0, 1) := by decide +kernel
set_option maxRecDepth 20000 in
theorem dX6_drop_68 : decode cX6_drop 68 = .ok (.getfield 7, 3) := by decide +kernel
set_option maxRecDepth 20000 in
theorem dX6_drop_71 : decode cX6_drop 71 = .ok (.iload_n 3, 1) := by decide +kernel
set_option maxRecDepth 20000 in
theorem dX6_drop_72 : decode cX6_drop 72 = .ok (.aload_n 0, 1) := by decide +kernel
set_option maxRecDepth 20000 in
theorem dX6_drop_73 : decode cX6_drop 73 = .ok (.getfield 7, 3) := by decide +kernel
set_option maxRecDepth 20000 in
theorem dX6_drop_76 : decode cX6_drop 76 = .ok (.iload_n 3, 1) := by decide +kernel
set_option maxRecDepth 20000 in
theorem dX6_drop_77 : decode cX6_drop 77 = .ok (.bipush 6, 2) := by decide +kernel
set_option maxRecDepth 20000 in
theorem dX6_drop_79 : decode cX6_drop 79 = .ok (.iadd, 1) := by decide +kernel
set_option maxRecDepth 20000 in
theorem dX6_drop_80 : decode cX6_drop 80 = .ok (.iaload, 1) := by decide +kernel
set_option maxRecDepth 20000 in
theorem dX6_drop_81 : decode cX6_drop 81 = .ok (.iastore, 1) := by decide +kernel
set_option maxRecDepth 20000 in
theorem dX6_drop_82 : decode cX6_drop 82 = .ok (.iinc 3 1, 3) := by decide +kernel
set_option maxRecDepth 20000 in
theorem dX6_drop_85 : decode cX6_drop 85 = .ok (.goto (-24), 3) := by decide +kernel
set_option maxRecDepth 20000 in
theorem dX6_drop_88 : decode cX6_drop 88 = .ok (.aload_n 0, 1) := by decide +kernel
set_option maxRecDepth 20000 in
theorem dX6_drop_89 : decode cX6_drop 89 = .ok (.getfield 7, 3) := by decide +kernel
set_option maxRecDepth 20000 in
theorem dX6_drop_92 : decode cX6_drop 92 = .ok (.iconst 2, 1) := by decide +kernel
set_option maxRecDepth 20000 in
theorem dX6_drop_93 : decode cX6_drop 93 = .ok (.dup2, 1) := by decide +kernel
set_option maxRecDepth 20000 in
theorem dX6_drop_94 : decode cX6_drop 94 = .ok (.iaload, 1) := by decide +kernel
set_option maxRecDepth 20000 in
theorem dX6_drop_95 : decode cX6_drop 95 = .ok (.iconst 1, 1) := by decide +kernel
set_option maxRecDepth 20000 in
theorem dX6_drop_96 : decode cX6_drop 96 = .ok (.isub, 1) := by decide +kernel
set_option maxRecDepth 20000 in
theorem dX6_drop_97 : decode cX6_drop 97 = .ok (.iastore, 1) := by decide +kernel
set_option maxRecDepth 20000 in
theorem dX6_drop_98 : decode cX6_drop 98 = .ok (.aload_n 0, 1) := by decide +kernel
set_option maxRecDepth 20000 in
theorem dX6_drop_99 : decode cX6_drop 99 = .ok (.getfield 7, 3) := by decide +kernel
set_option maxRecDepth 20000 in
theorem dX6_drop_102 : decode cX6_drop 102 = .ok (.iconst 2, 1) := by decide +kernel
set_option maxRecDepth 20000 in
theorem dX6_drop_103 : decode cX6_drop 103 = .ok (.iaload, 1) := by decide +kernel
set_option maxRecDepth 20000 in
theorem dX6_drop_104 : decode cX6_drop 104 = .ok (.ireturn, 1) := by decide +kernel
set_option maxRecDepth 20000 in
theorem dX6_others_0 : decode cX6_others 0 = .ok (.iconst 0, 1) := by decide +kernel
set_option maxRecDepth 20000 in
theorem dX6_others_1 : decode cX6_others 1 = .ok (.istore_n 2, 1) := by decide +kernel
set_option maxRecDepth 20000 in
theorem dX6_others_2 : decode cX6_others 2 = .ok (.iconst 0, 1) := by decide +kernel
set_option maxRecDepth 20000 in
theorem dX6_others_3 : decode cX6_others 3 = .ok (.istore_n 3, 1) := by decide +kernel
set_option maxRecDepth 20000 in
theorem dX6_others_4 : decode cX6_others 4 = .ok (.iload_n 3, 1) := by decide +kernel
set_option maxRecDepth 20000 in
theorem dX6_others_5 : decode cX6_others 5 = .ok (.aload_n 0, 1) := by decide +kernel
set_option maxRecDepth 20000 in
theorem dX6_others_6 : decode cX6_others 6 = .ok (.getfield 7, 3) := by decide +kernel
set_option maxRecDepth 20000 in
theorem dX6_others_9 : decode cX6_others 9 = .ok (.iconst 1, 1) := by decide +kernel
set_option maxRecDepth 20000 in
theorem dX6_others_10 : decode cX6_others 10 = .ok (.iaload, 1) := by decide +kernel
set_option maxRecDepth 20000 in
theorem dX6_others_11 : decode cX6_others 11 = .ok (.if_icmp .ge 34, 3) := by decide +kernel
set_option maxRecDepth 20000 in
theorem dX6_others_14 : decode cX6_others 14 = .ok (.iload_n 2, 1) := by decide +kernel
set_option maxRecDepth 20000 in
theorem dX6_others_15 : decode cX6_others 15 = .ok (.aload_n 0, 1) := by decide +kernel
set_option maxRecDepth 20000 in
theorem dX6_others_16 : decode cX6_others 16 = .ok (.getfield 7, 3) := by decide +kernel
set_option maxRecDepth 20000 in
theorem dX6_others_19 : decode cX6_others 19 = .ok (.bipush 45, 2) := by decide +kernel
set_option maxRecDepth 20000 in
theorem dX6_others_21 : decode cX6_others 21 = .ok (.bipush 6, 2) := by decide +kernel
set_option maxRecDepth 20000 in
theorem dX6_others_23 : decode cX6_others 23 = .ok (.iload_n 1, 1) := by decide +kernel
set_option maxRecDepth 20000 in
theorem dX6_others_24 : decode cX6_others 24 = .ok (.imul, 1) := by decide +kernel
set_option maxRecDepth 20000 in
theorem dX6_others_25 : decode cX6_others 25 = .ok (.iadd, 1) := by decide +kernel
set_option maxRecDepth 20000 in
theorem dX6_others_26 : decode cX6_others 26 = .ok (.iload_n 3, 1) := by decide +kernel
set_option maxRecDepth 20000 in
theorem dX6_others_27 : decode cX6_others 27 = .ok (.iadd, 1) := by decide +kernel
set_option maxRecDepth 20000 in
theorem dX6_others_28 : decode cX6_others 28 = .ok (.iaload, 1) := by decide +kernel
set_option maxRecDepth 20000 in
theorem dX6_others_29 : decode cX6_others 29 = .ok (.ifCond .ne 7, 3) := by decide +kernel
set_option maxRecDepth 20000 in
theorem dX6_others_32 : decode cX6_others 32 = .ok (.iconst 0, 1) := by decide +kernel
set_option maxRecDepth 20000 in
theorem dX6_others_33 : decode cX6_others 33 = .ok (.goto 4, 3) := by decide +kernel
set_option maxRecDepth 20000 in
theorem dX6_others_36 : decode cX6_others 36 = .ok (.iconst 1, 1) := by decide +kernel
set_option maxRecDepth 20000 in
theorem dX6_others_37 : decode cX6_others 37 = .ok (.iadd, 1) := by decide +kernel
set_option maxRecDepth 20000 in
theorem dX6_others_38 : decode cX6_others 38 = .ok (.istore_n 2, 1) := by decide +kernel
set_option maxRecDepth 20000 in
theorem dX6_others_39 : decode cX6_others 39 = .ok (.iinc 3 1, 3) := by decide +kernel
set_option maxRecDepth 20000 in
theorem dX6_others_42 : decode cX6_others 42 = .ok (.goto (-38), 3) := by decide +kernel
set_option maxRecDepth 20000 in
theorem dX6_others_45 : decode cX6_others 45 = .ok (.iload_n 2, 1) := by decide +kernel
set_option maxRecDepth 20000 in
theorem dX6_others_46 : decode cX6_others 46 = .ok (.ireturn, 1) := by decide +kernel
set_option maxRecDepth 20000 in
theorem dX6_put_0 : decode cX6_put 0 = .ok (.aload_n 0, 1) := by decide +kernel
set_option maxRecDepth 20000 in
theorem dX6_put_1 : decode cX6_put 1 = .ok (.iload_n 1, 1) := by decide +kernel
set_option maxRecDepth 20000 in
theorem dX6_put_2 : decode cX6_put 2 = .ok (.invokevirtual 266, 3) := by decide +kernel
set_option maxRecDepth 20000 in
theorem dX6_put_5 : decode cX6_put 5 = .ok (.ifCond .eq 26, 3) := by decide +kernel
set_option maxRecDepth 20000 in
theorem dX6_put_8 : decode cX6_put 8 = .ok (.aload_n 0, 1) := by decide +kernel
set_option maxRecDepth 20000 in
theorem dX6_put_9 : decode cX6_put 9 = .ok (.iconst 1, 1) := by decide +kernel
set_option maxRecDepth 20000 in
theorem dX6_put_10 : decode cX6_put 10 = .ok (.iload_n 2, 1) := by decide +kernel
set_option maxRecDepth 20000 in
theorem dX6_put_11 : decode cX6_put 11 = .ok (.invokevirtual 247, 3) := by decide +kernel
set_option maxRecDepth 20000 in
theorem dX6_put_14 : decode cX6_put 14 = .ok (.ifCond .eq 17, 3) := by decide +kernel
set_option maxRecDepth 20000 in
theorem dX6_put_17 : decode cX6_put 17 = .ok (.iload_n 3, 1) := by decide +kernel
set_option maxRecDepth 20000 in
theorem dX6_put_18 : decode cX6_put 18 = .ok (.i2l, 1) := by decide +kernel
set_option maxRecDepth 20000 in
theorem dX6_put_19 : decode cX6_put 19 = .ok (.ldc2_w 269, 3) := by decide +kernel
set_option maxRecDepth 20000 in
theorem dX6_put_22 : decode cX6_put 22 = .ok (.ldc2_w 271, 3) := by decide +kernel
set_option maxRecDepth 20000 in
theorem dX6_put_25 : decode cX6_put 25 = .ok (.invokestatic 150, 3) := by decide +kernel
set_option maxRecDepth 20000 in
theorem dX6_put_28 : decode cX6_put 28 = .ok (.ifCond .ne 6, 3) := by decide +kernel
set_option maxRecDepth 20000 in
theorem dX6_put_31 : decode cX6_put 31 = .ok (.ldc 218, 2) := by decide +kernel
set_option maxRecDepth 20000 in
theorem dX6_put_33 : decode cX6_put 33 = .ok (.ireturn, 1) := by decide +kernel
set_option maxRecDepth 20000 in
theorem dX6_put_34 : decode cX6_put 34 = .ok (.aload_n 0, 1) := by decide +kernel
set_option maxRecDepth 20000 in
theorem dX6_put_35 : decode cX6_put 35 = .ok (.invokevirtual 252, 3) := by decide +kernel
set_option maxRecDepth 20000 in
theorem dX6_put_38 : decode cX6_put 38 = .ok (.aload_n 0, 1) := by decide +kernel
set_option maxRecDepth 20000 in
theorem dX6_put_39 : decode cX6_put 39 = .ok (.getfield 7, 3) := by decide +kernel
set_option maxRecDepth 20000 in
theorem dX6_put_42 : decode cX6_put 42 = .ok (.bipush 45, 2) := by decide +kernel
set_option maxRecDepth 20000 in
theorem dX6_put_44 : decode cX6_put 44 = .ok (.bipush 6, 2) := by decide +kernel
set_option maxRecDepth 20000 in
theorem dX6_put_46 : decode cX6_put 46 = .ok (.iload_n 1, 1) := by decide +kernel
set_option maxRecDepth 20000 in
theorem dX6_put_47 : decode cX6_put 47 = .ok (.imul, 1) := by decide +kernel
set_option maxRecDepth 20000 in
theorem dX6_put_48 : decode cX6_put 48 = .ok (.iadd, 1) := by decide +kernel
set_option maxRecDepth 20000 in
theorem dX6_put_49 : decode cX6_put 49 = .ok (.iload_n 2, 1) := by decide +kernel
set_option maxRecDepth 20000 in
theorem dX6_put_50 : decode cX6_put 50 = .ok (.iadd, 1) := by decide +kernel
set_option maxRecDepth 20000 in
theorem dX6_put_51 : decode cX6_put 51 = .ok (.iaload, 1) := by decide +kernel
set_option maxRecDepth 20000 in
theorem dX6_put_52 : decode cX6_put 52 = .ok (.istore 4, 2) := by decide +kernel
set_option maxRecDepth 20000 in
theorem dX6_put_54 : decode cX6_put 54 = .ok (.aload_n 0, 1) := by decide +kernel
set_option maxRecDepth 20000 in
theorem dX6_put_55 : decode cX6_put 55 = .ok (.getfield 7, 3) := by decide +kernel
set_option maxRecDepth 20000 in
theorem dX6_put_58 : decode cX6_put 58 = .ok (.bipush 45, 2) := by decide +kernel
set_option maxRecDepth 20000 in
theorem dX6_put_60 : decode cX6_put 60 = .ok (.bipush 6, 2) := by decide +kernel
set_option maxRecDepth 20000 in
theorem dX6_put_62 : decode cX6_put 62 = .ok (.iload_n 1, 1) := by decide +kernel
set_option maxRecDepth 20000 in
theorem dX6_put_63 : decode cX6_put 63 = .ok (.imul, 1) := by decide +kernel
set_option maxRecDepth 20000 in
theorem dX6_put_64 : decode cX6_put 64 = .ok (.iadd, 1) := by decide +kernel
set_option maxRecDepth 20000 in
theorem dX6_put_65 : decode cX6_put 65 = .ok (.iload_n 2, 1) := by decide +kernel
set_option maxRecDepth 20000 in
theorem dX6_put_66 : decode cX6_put 66 = .ok (.iadd, 1) := by decide +kernel
set_option maxRecDepth 20000 in
theorem dX6_put_67 : decode cX6_put 67 = .ok (.iload_n 3, 1) := by decide +kernel
set_option maxRecDepth 20000 in
theorem dX6_put_68 : decode cX6_put 68 = .ok (.iastore, 1) := by decide +kernel
set_option maxRecDepth 20000 in
theorem dX6_put_69 : decode cX6_put 69 = .ok (.iload 4, 2) := by decide +kernel
set_option maxRecDepth 20000 in
theorem dX6_put_71 : decode cX6_put 71 = .ok (.ireturn, 1) := by decide +kernel
set_option maxRecDepth 20000 in
theorem dX6_bound_0 : decode cX6_bound 0 = .ok (.aload_n 0, 1) := by decide +kernel
set_option maxRecDepth 20000 in
theorem dX6_bound_1 : decode cX6_bound 1 = .ok (.iload_n 1, 1) := by decide +kernel
set_option maxRecDepth 20000 in
theorem dX6_bound_2 : decode cX6_bound 2 = .ok (.invokevirtual 266, 3) := by decide +kernel
set_option maxRecDepth 20000 in
theorem dX6_bound_5 : decode cX6_bound 5 = .ok (.ifCond .eq 26, 3) := by decide +kernel
set_option maxRecDepth 20000 in
theorem dX6_bound_8 : decode cX6_bound 8 = .ok (.aload_n 0, 1) := by decide +kernel
set_option maxRecDepth 20000 in
theorem dX6_bound_9 : decode cX6_bound 9 = .ok (.iconst 2, 1) := by decide +kernel
set_option maxRecDepth 20000 in
theorem dX6_bound_10 : decode cX6_bound 10 = .ok (.iload_n 2, 1) := by decide +kernel
set_option maxRecDepth 20000 in
theorem dX6_bound_11 : decode cX6_bound 11 = .ok (.invokevirtual 247, 3) := by decide +kernel
set_option maxRecDepth 20000 in
theorem dX6_bound_14 : decode cX6_bound 14 = .ok (.ifCond .eq 17, 3) := by decide +kernel
set_option maxRecDepth 20000 in
theorem dX6_bound_17 : decode cX6_bound 17 = .ok (.iload_n 3, 1) := by decide +kernel
set_option maxRecDepth 20000 in
theorem dX6_bound_18 : decode cX6_bound 18 = .ok (.i2l, 1) := by decide +kernel
set_option maxRecDepth 20000 in
theorem dX6_bound_19 : decode cX6_bound 19 = .ok (.ldc2_w 269, 3) := by decide +kernel
set_option maxRecDepth 20000 in
theorem dX6_bound_22 : decode cX6_bound 22 = .ok (.ldc2_w 271, 3) := by decide +kernel
set_option maxRecDepth 20000 in
theorem dX6_bound_25 : decode cX6_bound 25 = .ok (.invokestatic 150, 3) := by decide +kernel
set_option maxRecDepth 20000 in
theorem dX6_bound_28 : decode cX6_bound 28 = .ok (.ifCond .ne 6, 3) := by decide +kernel
set_option maxRecDepth 20000 in
theorem dX6_bound_31 : decode cX6_bound 31 = .ok (.ldc 218, 2) := by decide +kernel
set_option maxRecDepth 20000 in
theorem dX6_bound_33 : decode cX6_bound 33 = .ok (.ireturn, 1) := by decide +kernel
set_option maxRecDepth 20000 in
theorem dX6_bound_34 : decode cX6_bound 34 = .ok (.iconst 0, 1) := by decide +kernel
set_option maxRecDepth 20000 in
theorem dX6_bound_35 : decode cX6_bound 35 = .ok (.istore 4, 2) := by decide +kernel
set_option maxRecDepth 20000 in
theorem dX6_bound_37 : decode cX6_bound 37 = .ok (.iload 4, 2) := by decide +kernel
set_option maxRecDepth 20000 in
theorem dX6_bound_39 : decode cX6_bound 39 = .ok (.aload_n 0, 1) := by decide +kernel
set_option maxRecDepth 20000 in
theorem dX6_bound_40 : decode cX6_bound 40 = .ok (.getfield 7, 3) := by decide +kernel
set_option maxRecDepth 20000 in
theorem dX6_bound_43 : decode cX6_bound 43 = .ok (.iconst 1, 1) := by decide +kernel
set_option maxRecDepth 20000 in
theorem dX6_bound_44 : decode cX6_bound 44 = .ok (.iaload, 1) := by decide +kernel
set_option maxRecDepth 20000 in
theorem dX6_bound_45 : decode cX6_bound 45 = .ok (.if_icmp .ge 50, 3) := by decide +kernel
set_option maxRecDepth 20000 in
theorem dX6_bound_48 : decode cX6_bound 48 = .ok (.aload_n 0, 1) := by decide +kernel
set_option maxRecDepth 20000 in
theorem dX6_bound_49 : decode cX6_bound 49 = .ok (.getfield 7, 3) := by decide +kernel
set_option maxRecDepth 20000 in
theorem dX6_bound_52 : decode cX6_bound 52 = .ok (.bipush 45, 2) := by decide +kernel
set_option maxRecDepth 20000 in
theorem dX6_bound_54 : decode cX6_bound 54 = .ok (.bipush 6, 2) := by decide +kernel
set_option maxRecDepth 20000 in
theorem dX6_bound_56 : decode cX6_bound 56 = .ok (.iload_n 1, 1) := by decide +kernel
set_option maxRecDepth 20000 in
theorem dX6_bound_57 : decode cX6_bound 57 = .ok (.imul, 1) := by decide +kernel
set_option maxRecDepth 20000 in
theorem dX6_bound_58 : decode cX6_bound 58 = .ok (.iadd, 1) := by decide +kernel
set_option maxRecDepth 20000 in
theorem dX6_bound_59 : decode cX6_bound 59 = .ok (.iload 4, 2) := by decide +kernel
set_option maxRecDepth 20000 in
theorem dX6_bound_61 : decode cX6_bound 61 = .ok (.iadd, 1) := by decide +kernel
set_option maxRecDepth 20000 in
theorem dX6_bound_62 : decode cX6_bound 62 = .ok (.iaload, 1) := by decide +kernel
set_option maxRecDepth 20000 in
theorem dX6_bound_63 : decode cX6_bound 63 = .ok (.iload_n 3, 1) := by decide +kernel
set_option maxRecDepth 20000 in
theorem dX6_bound_64 : decode cX6_bound 64 = .ok (.aload_n 0, 1) := by decide +kernel
set_option maxRecDepth 20000 in
theorem dX6_bound_65 : decode cX6_bound 65 = .ok (.iload 4, 2) := by decide +kernel
set_option maxRecDepth 20000 in
theorem dX6_bound_67 : decode cX6_bound 67 = .ok (.iload_n 2, 1) := by decide +kernel
set_option maxRecDepth 20000 in
theorem dX6_bound_68 : decode cX6_bound 68 = .ok (.invokevirtual 71, 3) := by decide +kernel
set_option maxRecDepth 20000 in
theorem dX6_bound_71 : decode cX6_bound 71 = .ok (.imul, 1) := by decide +kernel
set_option maxRecDepth 20000 in
theorem dX6_bound_72 : decode cX6_bound 72 = .ok (.iadd, 1) := by decide +kernel
set_option maxRecDepth 20000 in
theorem dX6_bound_73 : decode cX6_bound 73 = .ok (.i2l, 1) := by decide +kernel
set_option maxRecDepth 20000 in
theorem dX6_bound_74 : decode cX6_bound 74 = .ok (.ldc2_w 269, 3) := by decide +kernel
set_option maxRecDepth 20000 in
theorem dX6_bound_77 : decode cX6_bound 77 = .ok (.ldc2_w 271, 3) := by decide +kernel
set_option maxRecDepth 20000 in
theorem dX6_bound_80 : decode cX6_bound 80 = .ok (.invokestatic 150, 3) := by decide +kernel
set_option maxRecDepth 20000 in
theorem dX6_bound_83 : decode cX6_bound 83 = .ok (.ifCond .ne 6, 3) := by decide +kernel
set_option maxRecDepth 20000 in
theorem dX6_bound_86 : decode cX6_bound 86 = .ok (.ldc 219, 2) := by decide +kernel
set_option maxRecDepth 20000 in
theorem dX6_bound_88 : decode cX6_bound 88 = .ok (.ireturn, 1) := by decide +kernel
set_option maxRecDepth 20000 in
theorem dX6_bound_89 : decode cX6_bound 89 = .ok (.iinc 4 1, 3) := by decide +kernel
set_option maxRecDepth 20000 in
theorem dX6_bound_92 : decode cX6_bound 92 = .ok (.goto (-55), 3) := by decide +kernel
set_option maxRecDepth 20000 in
theorem dX6_bound_95 : decode cX6_bound 95 = .ok (.aload_n 0, 1) := by decide +kernel
set_option maxRecDepth 20000 in
theorem dX6_bound_96 : decode cX6_bound 96 = .ok (.invokevirtual 252, 3) := by decide +kernel
set_option maxRecDepth 20000 in
theorem dX6_bound_99 : decode cX6_bound 99 = .ok (.iconst 0, 1) := by decide +kernel
set_option maxRecDepth 20000 in
theorem dX6_bound_100 : decode cX6_bound 100 = .ok (.istore 4, 2) := by decide +kernel
set_option maxRecDepth 20000 in
theorem dX6_bound_102 : decode cX6_bound 102 = .ok (.iload 4, 2) := by decide +kernel
set_option maxRecDepth 20000 in
theorem dX6_bound_104 : decode cX6_bound 104 = .ok (.aload_n 0, 1) := by decide +kernel
set_option maxRecDepth 20000 in
theorem dX6_bound_105 : decode cX6_bound 105 = .ok (.getfield 7, 3) := by decide +kernel
set_option maxRecDepth 20000 in
theorem dX6_bound_108 : decode cX6_bound 108 = .ok (.iconst 1, 1) := by decide +kernel
set_option maxRecDepth 20000 in
theorem dX6_bound_109 : decode cX6_bound 109 = .ok (.iaload, 1) := by decide +kernel
set_option maxRecDepth 20000 in
theorem dX6_bound_110 : decode cX6_bound 110 = .ok (.if_icmp .ge 36, 3) := by decide +kernel
set_option maxRecDepth 20000 in
theorem dX6_bound_113 : decode cX6_bound 113 = .ok (.aload_n 0, 1) := by decide +kernel
set_option maxRecDepth 20000 in
theorem dX6_bound_114 : decode cX6_bound 114 = .ok (.getfield 7, 3) := by decide +kernel
set_option maxRecDepth 20000 in
theorem dX6_bound_117 : decode cX6_bound 117 = .ok (.bipush 45, 2) := by decide +kernel
set_option maxRecDepth 20000 in
theorem dX6_bound_119 : decode cX6_bound 119 = .ok (.bipush 6, 2) := by decide +kernel
set_option maxRecDepth 20000 in
theorem dX6_bound_121 : decode cX6_bound 121 = .ok (.iload_n 1, 1) := by decide +kernel
set_option maxRecDepth 20000 in
theorem dX6_bound_122 : decode cX6_bound 122 = .ok (.imul, 1) := by decide +kernel
set_option maxRecDepth 20000 in
theorem dX6_bound_123 : decode cX6_bound 123 = .ok (.iadd, 1) := by decide +kernel
set_option maxRecDepth 20000 in
theorem dX6_bound_124 : decode cX6_bound 124 = .ok (.iload 4, 2) := by decide +kernel
set_option maxRecDepth 20000 in
theorem dX6_bound_126 : decode cX6_bound 126 = .ok (.iadd, 1) := by decide +kernel
set_option maxRecDepth 20000 in
theorem dX6_bound_127 : decode cX6_bound 127 = .ok (.dup2, 1) := by decide +kernel
set_option maxRecDepth 20000 in
theorem dX6_bound_128 : decode cX6_bound 128 = .ok (.iaload, 1) := by decide +kernel
set_option maxRecDepth 20000 in
theorem dX6_bound_129 : decode cX6_bound 129 = .ok (.iload_n 3, 1) := by decide +kernel
set_option maxRecDepth 20000 in
theorem dX6_bound_130 : decode cX6_bound 130 = .ok (.aload_n 0, 1) := by decide +kernel
set_option maxRecDepth 20000 in
theorem dX6_bound_131 : decode cX6_bound 131 = .ok (.iload 4, 2) := by decide +kernel
set_option maxRecDepth 20000 in
theorem dX6_bound_133 : decode cX6_bound 133 = .ok (.iload_n 2, 1) := by decide +kernel
set_option maxRecDepth 20000 in
theorem dX6_bound_134 : decode cX6_bound 134 = .ok (.invokevirtual 71, 3) := by decide +kernel
set_option maxRecDepth 20000 in
theorem dX6_bound_137 : decode cX6_bound 137 = .ok (.imul, 1) := by decide +kernel
set_option maxRecDepth 20000 in
theorem dX6_bound_138 : decode cX6_bound 138 = .ok (.iadd, 1) := by decide +kernel
set_option maxRecDepth 20000 in
theorem dX6_bound_139 : decode cX6_bound 139 = .ok (.iastore, 1) := by decide +kernel
set_option maxRecDepth 20000 in
theorem dX6_bound_140 : decode cX6_bound 140 = .ok (.iinc 4 1, 3) := by decide +kernel
set_option maxRecDepth 20000 in
theorem dX6_bound_143 : decode cX6_bound 143 = .ok (.goto (-41), 3) := by decide +kernel
set_option maxRecDepth 20000 in
theorem dX6_bound_146 : decode cX6_bound 146 = .ok (.aload_n 0, 1) := by decide +kernel
set_option maxRecDepth 20000 in
theorem dX6_bound_147 : decode cX6_bound 147 = .ok (.iload_n 1, 1) := by decide +kernel
set_option maxRecDepth 20000 in
theorem dX6_bound_148 : decode cX6_bound 148 = .ok (.invokevirtual 273, 3) := by decide +kernel
set_option maxRecDepth 20000 in
theorem dX6_bound_151 : decode cX6_bound 151 = .ok (.ireturn, 1) := by decide +kernel
set_option maxRecDepth 20000 in
theorem dX6_drawn_0 : decode cX6_drawn 0 = .ok (.aload_n 0, 1) := by decide +kernel
set_option maxRecDepth 20000 in
theorem dX6_drawn_1 : decode cX6_drawn 1 = .ok (.invokevirtual 244, 3) := by decide +kernel
set_option maxRecDepth 20000 in
theorem dX6_drawn_4 : decode cX6_drawn 4 = .ok (.ifCond .ne 6, 3) := by decide +kernel
set_option maxRecDepth 20000 in
theorem dX6_drawn_7 : decode cX6_drawn 7 = .ok (.ldc 241, 2) := by decide +kernel
set_option maxRecDepth 20000 in
theorem dX6_drawn_9 : decode cX6_drawn 9 = .ok (.ireturn, 1) := by decide +kernel
set_option maxRecDepth 20000 in
theorem dX6_drawn_10 : decode cX6_drawn 10 = .ok (.iload_n 1, 1) := by decide +kernel
set_option maxRecDepth 20000 in
theorem dX6_drawn_11 : decode cX6_drawn 11 = .ok (.i2l, 1) := by decide +kernel
set_option maxRecDepth 20000 in
theorem dX6_drawn_12 : decode cX6_drawn 12 = .ok (.lconst 0, 1) := by decide +kernel
set_option maxRecDepth 20000 in
theorem dX6_drawn_13 : decode cX6_drawn 13 = .ok (.ldc2_w 242, 3) := by decide +kernel
set_option maxRecDepth 20000 in
theorem dX6_drawn_16 : decode cX6_drawn 16 = .ok (.invokestatic 150, 3) := by decide +kernel
set_option maxRecDepth 20000 in
theorem dX6_drawn_19 : decode cX6_drawn 19 = .ok (.ifCond .eq 15, 3) := by decide +kernel
set_option maxRecDepth 20000 in
theorem dX6_drawn_22 : decode cX6_drawn 22 = .ok (.iload_n 2, 1) := by decide +kernel
set_option maxRecDepth 20000 in
theorem dX6_drawn_23 : decode cX6_drawn 23 = .ok (.i2l, 1) := by decide +kernel
set_option maxRecDepth 20000 in
theorem dX6_drawn_24 : decode cX6_drawn 24 = .ok (.lconst 1, 1) := by decide +kernel
set_option maxRecDepth 20000 in
theorem dX6_drawn_25 : decode cX6_drawn 25 = .ok (.ldc2_w 276, 3) := by decide +kernel
set_option maxRecDepth 20000 in
theorem dX6_drawn_28 : decode cX6_drawn 28 = .ok (.invokestatic 150, 3) := by decide +kernel
set_option maxRecDepth 20000 in
theorem dX6_drawn_31 : decode cX6_drawn 31 = .ok (.ifCond .ne 6, 3) := by decide +kernel
set_option maxRecDepth 20000 in
theorem dX6_drawn_34 : decode cX6_drawn 34 = .ok (.ldc 218, 2) := by decide +kernel
set_option maxRecDepth 20000 in
theorem dX6_drawn_36 : decode cX6_drawn 36 = .ok (.ireturn, 1) := by decide +kernel
set_option maxRecDepth 20000 in
theorem dX6_drawn_37 : decode cX6_drawn 37 = .ok (.aload_n 0, 1) := by decide +kernel
set_option maxRecDepth 20000 in
theorem dX6_drawn_38 : decode cX6_drawn 38 = .ok (.invokevirtual 252, 3) := by decide +kernel
set_option maxRecDepth 20000 in
theorem dX6_drawn_41 : decode cX6_drawn 41 = .ok (.iload_n 2, 1) := by decide +kernel
set_option maxRecDepth 20000 in
theorem dX6_drawn_42 : decode cX6_drawn 42 = .ok (.i2l, 1) := by decide +kernel
set_option maxRecDepth 20000 in
theorem dX6_drawn_43 : decode cX6_drawn 43 = .ok (.lstore_n 3, 1) := by decide +kernel
set_option maxRecDepth 20000 in
theorem dX6_drawn_44 : decode cX6_drawn 44 = .ok (.iconst 0, 1) := by decide +kernel
set_option maxRecDepth 20000 in
theorem dX6_drawn_45 : decode cX6_drawn 45 = .ok (.istore 5, 2) := by decide +kernel
set_option maxRecDepth 20000 in
theorem dX6_drawn_47 : decode cX6_drawn 47 = .ok (.iload 5, 2) := by decide +kernel
set_option maxRecDepth 20000 in
theorem dX6_drawn_49 : decode cX6_drawn 49 = .ok (.aload_n 0, 1) := by decide +kernel
set_option maxRecDepth 20000 in
theorem dX6_drawn_50 : decode cX6_drawn 50 = .ok (.getfield 7, 3) := by decide +kernel
set_option maxRecDepth 20000 in
theorem dX6_drawn_53 : decode cX6_drawn 53 = .ok (.iconst 1, 1) := by decide +kernel
set_option maxRecDepth 20000 in
theorem dX6_drawn_54 : decode cX6_drawn 54 = .ok (.iaload, 1) := by decide +kernel
set_option maxRecDepth 20000 in
theorem dX6_drawn_55 : decode cX6_drawn 55 = .ok (.if_icmp .ge 43, 3) := by decide +kernel
set_option maxRecDepth 20000 in
theorem dX6_drawn_58 : decode cX6_drawn 58 = .ok (.lload_n 3, 1) := by decide +kernel
set_option maxRecDepth 20000 in
theorem dX6_drawn_59 : decode cX6_drawn 59 = .ok (.ldc2_w 278, 3) := by decide +kernel
set_option maxRecDepth 20000 in
theorem dX6_drawn_62 : decode cX6_drawn 62 = .ok (.lmul, 1) := by decide +kernel
set_option maxRecDepth 20000 in
theorem dX6_drawn_63 : decode cX6_drawn 63 = .ok (.ldc2_w 280, 3) := by decide +kernel
set_option maxRecDepth 20000 in
theorem dX6_drawn_66 : decode cX6_drawn 66 = .ok (.lrem, 1) := by decide +kernel
set_option maxRecDepth 20000 in
theorem dX6_drawn_67 : decode cX6_drawn 67 = .ok (.lstore_n 3, 1) := by decide +kernel
set_option maxRecDepth 20000 in
theorem dX6_drawn_68 : decode cX6_drawn 68 = .ok (.aload_n 0, 1) := by decide +kernel
set_option maxRecDepth 20000 in
theorem dX6_drawn_69 : decode cX6_drawn 69 = .ok (.getfield 7, 3) := by decide +kernel
set_option maxRecDepth 20000 in
theorem dX6_drawn_72 : decode cX6_drawn 72 = .ok (.bipush 45, 2) := by decide +kernel
set_option maxRecDepth 20000 in
theorem dX6_drawn_74 : decode cX6_drawn 74 = .ok (.bipush 6, 2) := by decide +kernel
set_option maxRecDepth 20000 in
theorem dX6_drawn_76 : decode cX6_drawn 76 = .ok (.iload_n 1, 1) := by decide +kernel
set_option maxRecDepth 20000 in
theorem dX6_drawn_77 : decode cX6_drawn 77 = .ok (.imul, 1) := by decide +kernel
set_option maxRecDepth 20000 in
theorem dX6_drawn_78 : decode cX6_drawn 78 = .ok (.iadd, 1) := by decide +kernel
set_option maxRecDepth 20000 in
theorem dX6_drawn_79 : decode cX6_drawn 79 = .ok (.iload 5, 2) := by decide +kernel
set_option maxRecDepth 20000 in
theorem dX6_drawn_81 : decode cX6_drawn 81 = .ok (.iadd, 1) := by decide +kernel
set_option maxRecDepth 20000 in
theorem dX6_drawn_82 : decode cX6_drawn 82 = .ok (.lload_n 3, 1) := by decide +kernel
set_option maxRecDepth 20000 in
theorem dX6_drawn_83 : decode cX6_drawn 83 = .ok (.ldc2_w 282, 3) := by decide +kernel
set_option maxRecDepth 20000 in
theorem dX6_drawn_86 : decode cX6_drawn 86 = .ok (.lrem, 1) := by decide +kernel
set_option maxRecDepth 20000 in
theorem dX6_drawn_87 : decode cX6_drawn 87 = .ok (.l2i, 1) := by decide +kernel
set_option maxRecDepth 20000 in
theorem dX6_drawn_88 : decode cX6_drawn 88 = .ok (.bipush 9, 2) := by decide +kernel
set_option maxRecDepth 20000 in
theorem dX6_drawn_90 : decode cX6_drawn 90 = .ok (.isub, 1) := by decide +kernel
set_option maxRecDepth 20000 in
theorem dX6_drawn_91 : decode cX6_drawn 91 = .ok (.iastore, 1) := by decide +kernel
set_option maxRecDepth 20000 in
theorem dX6_drawn_92 : decode cX6_drawn 92 = .ok (.iinc 5 1, 3) := by decide +kernel
set_option maxRecDepth 20000 in
theorem dX6_drawn_95 : decode cX6_drawn 95 = .ok (.goto (-48), 3) := by decide +kernel
set_option maxRecDepth 20000 in
theorem dX6_drawn_98 : decode cX6_drawn 98 = .ok (.aload_n 0, 1) := by decide +kernel
set_option maxRecDepth 20000 in
theorem dX6_drawn_99 : decode cX6_drawn 99 = .ok (.iload_n 1, 1) := by decide +kernel
set_option maxRecDepth 20000 in
theorem dX6_drawn_100 : decode cX6_drawn 100 = .ok (.invokevirtual 273, 3) := by decide +kernel
set_option maxRecDepth 20000 in
theorem dX6_drawn_103 : decode cX6_drawn 103 = .ok (.ireturn, 1) := by decide +kernel
set_option maxRecDepth 20000 in
theorem dX6_code_0 : decode cX6_code 0 = .ok (.iload_n 1, 1) := by decide +kernel
set_option maxRecDepth 20000 in
theorem dX6_code_1 : decode cX6_code 1 = .ok (.ifCond .ge 12, 3) := by decide +kernel
set_option maxRecDepth 20000 in
theorem dX6_code_4 : decode cX6_code 4 = .ok (.bipush 65, 2) := by decide +kernel
set_option maxRecDepth 20000 in
theorem dX6_code_6 : decode cX6_code 6 = .ok (.iload_n 1, 1) := by decide +kernel
set_option maxRecDepth 20000 in
theorem dX6_code_7 : decode cX6_code 7 = .ok (.isub, 1) := by decide +kernel
set_option maxRecDepth 20000 in
theorem dX6_code_8 : decode cX6_code 8 = .ok (.iconst 1, 1) := by decide +kernel
set_option maxRecDepth 20000 in
theorem dX6_code_9 : decode cX6_code 9 = .ok (.isub, 1) := by decide +kernel
set_option maxRecDepth 20000 in
theorem dX6_code_10 : decode cX6_code 10 = .ok (.goto 9, 3) := by decide +kernel
set_option maxRecDepth 20000 in
theorem dX6_code_13 : decode cX6_code 13 = .ok (.bipush 97, 2) := by decide +kernel
set_option maxRecDepth 20000 in
theorem dX6_code_15 : decode cX6_code 15 = .ok (.iload_n 1, 1) := by decide +kernel
set_option maxRecDepth 20000 in
theorem dX6_code_16 : decode cX6_code 16 = .ok (.iadd, 1) := by decide +kernel
set_option maxRecDepth 20000 in
theorem dX6_code_17 : decode cX6_code 17 = .ok (.iconst 1, 1) := by decide +kernel
set_option maxRecDepth 20000 in
theorem dX6_code_18 : decode cX6_code 18 = .ok (.isub, 1) := by decide +kernel
set_option maxRecDepth 20000 in
theorem dX6_code_19 : decode cX6_code 19 = .ok (.ireturn, 1) := by decide +kernel
set_option maxRecDepth 20000 in
theorem dX6_cell_0 : decode cX6_cell 0 = .ok (.iload_n 1, 1) := by decide +kernel
set_option maxRecDepth 20000 in
theorem dX6_cell_1 : decode cX6_cell 1 = .ok (.ifCond .eq 12, 3) := by decide +kernel
set_option maxRecDepth 20000 in
theorem dX6_cell_4 : decode cX6_cell 4 = .ok (.aload_n 0, 1) := by decide +kernel
set_option maxRecDepth 20000 in
theorem dX6_cell_5 : decode cX6_cell 5 = .ok (.iload_n 1, 1) := by decide +kernel
set_option maxRecDepth 20000 in
theorem dX6_cell_6 : decode cX6_cell 6 = .ok (.iload_n 2, 1) := by decide +kernel
set_option maxRecDepth 20000 in
theorem dX6_cell_7 : decode cX6_cell 7 = .ok (.invokevirtual 247, 3) := by decide +kernel
set_option maxRecDepth 20000 in
theorem dX6_cell_10 : decode cX6_cell 10 = .ok (.ifCond .ne 6, 3) := by decide +kernel
set_option maxRecDepth 20000 in
theorem dX6_cell_13 : decode cX6_cell 13 = .ok (.ldc 218, 2) := by decide +kernel
set_option maxRecDepth 20000 in
theorem dX6_cell_15 : decode cX6_cell 15 = .ok (.ireturn, 1) := by decide +kernel
set_option maxRecDepth 20000 in
theorem dX6_cell_16 : decode cX6_cell 16 = .ok (.iload_n 3, 1) := by decide +kernel
set_option maxRecDepth 20000 in
theorem dX6_cell_17 : decode cX6_cell 17 = .ok (.ifCond .ne 13, 3) := by decide +kernel
set_option maxRecDepth 20000 in
theorem dX6_cell_20 : decode cX6_cell 20 = .ok (.aload_n 0, 1) := by decide +kernel
set_option maxRecDepth 20000 in
theorem dX6_cell_21 : decode cX6_cell 21 = .ok (.getfield 7, 3) := by decide +kernel
set_option maxRecDepth 20000 in
theorem dX6_cell_24 : decode cX6_cell 24 = .ok (.iload_n 1, 1) := by decide +kernel
set_option maxRecDepth 20000 in
theorem dX6_cell_25 : decode cX6_cell 25 = .ok (.iload_n 2, 1) := by decide +kernel
set_option maxRecDepth 20000 in
theorem dX6_cell_26 : decode cX6_cell 26 = .ok (.invokestatic 81, 3) := by decide +kernel
set_option maxRecDepth 20000 in
theorem dX6_cell_29 : decode cX6_cell 29 = .ok (.ireturn, 1) := by decide +kernel
set_option maxRecDepth 20000 in
theorem dX6_cell_30 : decode cX6_cell 30 = .ok (.iload_n 1, 1) := by decide +kernel
set_option maxRecDepth 20000 in
theorem dX6_cell_31 : decode cX6_cell 31 = .ok (.iconst 1, 1) := by decide +kernel
set_option maxRecDepth 20000 in
theorem dX6_cell_32 : decode cX6_cell 32 = .ok (.if_icmp .ne 30, 3) := by decide +kernel
set_option maxRecDepth 20000 in
theorem dX6_cell_35 : decode cX6_cell 35 = .ok (.iload_n 3, 1) := by decide +kernel
set_option maxRecDepth 20000 in
theorem dX6_cell_36 : decode cX6_cell 36 = .ok (.iconst 1, 1) := by decide +kernel
set_option maxRecDepth 20000 in
theorem dX6_cell_37 : decode cX6_cell 37 = .ok (.if_icmp .eq 8, 3) := by decide +kernel
set_option maxRecDepth 20000 in
theorem dX6_cell_40 : decode cX6_cell 40 = .ok (.iload_n 3, 1) := by decide +kernel
set_option maxRecDepth 20000 in
theorem dX6_cell_41 : decode cX6_cell 41 = .ok (.iconst 2, 1) := by decide +kernel
set_option maxRecDepth 20000 in
theorem dX6_cell_42 : decode cX6_cell 42 = .ok (.if_icmp .ne 17, 3) := by decide +kernel
set_option maxRecDepth 20000 in
theorem dX6_cell_45 : decode cX6_cell 45 = .ok (.aload_n 0, 1) := by decide +kernel
set_option maxRecDepth 20000 in
theorem dX6_cell_46 : decode cX6_cell 46 = .ok (.getfield 7, 3) := by decide +kernel
set_option maxRecDepth 20000 in
theorem dX6_cell_49 : decode cX6_cell 49 = .ok (.iload_n 2, 1) := by decide +kernel
set_option maxRecDepth 20000 in
theorem dX6_cell_50 : decode cX6_cell 50 = .ok (.iload_n 3, 1) := by decide +kernel
set_option maxRecDepth 20000 in
theorem dX6_cell_51 : decode cX6_cell 51 = .ok (.iconst 1, 1) := by decide +kernel
set_option maxRecDepth 20000 in
theorem dX6_cell_52 : decode cX6_cell 52 = .ok (.isub, 1) := by decide +kernel
set_option maxRecDepth 20000 in
theorem dX6_cell_53 : decode cX6_cell 53 = .ok (.invokestatic 56, 3) := by decide +kernel
set_option maxRecDepth 20000 in
theorem dX6_cell_56 : decode cX6_cell 56 = .ok (.goto 5, 3) := by decide +kernel
set_option maxRecDepth 20000 in
theorem dX6_cell_59 : decode cX6_cell 59 = .ok (.ldc 218, 2) := by decide +kernel
set_option maxRecDepth 20000 in
theorem dX6_cell_61 : decode cX6_cell 61 = .ok (.ireturn, 1) := by decide +kernel
set_option maxRecDepth 20000 in
theorem dX6_cell_62 : decode cX6_cell 62 = .ok (.iload_n 3, 1) := by decide +kernel
set_option maxRecDepth 20000 in
theorem dX6_cell_63 : decode cX6_cell 63 = .ok (.iconst 1, 1) := by decide +kernel
set_option maxRecDepth 20000 in
theorem dX6_cell_64 : decode cX6_cell 64 = .ok (.if_icmp .ne 12, 3) := by decide +kernel
set_option maxRecDepth 20000 in
theorem dX6_cell_67 : decode cX6_cell 67 = .ok (.aload_n 0, 1) := by decide +kernel
set_option maxRecDepth 20000 in
theorem dX6_cell_68 : decode cX6_cell 68 = .ok (.getfield 7, 3) := by decide +kernel
set_option maxRecDepth 20000 in
theorem dX6_cell_71 : decode cX6_cell 71 = .ok (.iload_n 2, 1) := by decide +kernel
set_option maxRecDepth 20000 in
theorem dX6_cell_72 : decode cX6_cell 72 = .ok (.invokestatic 60, 3) := by decide +kernel
set_option maxRecDepth 20000 in
theorem dX6_cell_75 : decode cX6_cell 75 = .ok (.ireturn, 1) := by decide +kernel
set_option maxRecDepth 20000 in
theorem dX6_cell_76 : decode cX6_cell 76 = .ok (.iload_n 3, 1) := by decide +kernel
set_option maxRecDepth 20000 in
theorem dX6_cell_77 : decode cX6_cell 77 = .ok (.iconst 2, 1) := by decide +kernel
set_option maxRecDepth 20000 in
theorem dX6_cell_78 : decode cX6_cell 78 = .ok (.if_icmp .ne 20, 3) := by decide +kernel
set_option maxRecDepth 20000 in
theorem dX6_cell_81 : decode cX6_cell 81 = .ok (.aload_n 0, 1) := by decide +kernel
set_option maxRecDepth 20000 in
theorem dX6_cell_82 : decode cX6_cell 82 = .ok (.getfield 7, 3) := by decide +kernel
set_option maxRecDepth 20000 in
theorem dX6_cell_85 : decode cX6_cell 85 = .ok (.aload_n 0, 1) := by decide +kernel
set_option maxRecDepth 20000 in
theorem dX6_cell_86 : decode cX6_cell 86 = .ok (.getfield 7, 3) := by decide +kernel
set_option maxRecDepth 20000 in
theorem dX6_cell_89 : decode cX6_cell 89 = .ok (.iload_n 2, 1) := by decide +kernel
set_option maxRecDepth 20000 in
theorem dX6_cell_90 : decode cX6_cell 90 = .ok (.iconst 0, 1) := by decide +kernel
set_option maxRecDepth 20000 in
theorem dX6_cell_91 : decode cX6_cell 91 = .ok (.invokestatic 64, 3) := by decide +kernel
set_option maxRecDepth 20000 in
theorem dX6_cell_94 : decode cX6_cell 94 = .ok (.invokestatic 188, 3) := by decide +kernel
set_option maxRecDepth 20000 in
theorem dX6_cell_97 : decode cX6_cell 97 = .ok (.ireturn, 1) := by decide +kernel
set_option maxRecDepth 20000 in
theorem dX6_cell_98 : decode cX6_cell 98 = .ok (.iload_n 3, 1) := by decide +kernel
set_option maxRecDepth 20000 in
theorem dX6_cell_99 : decode cX6_cell 99 = .ok (.i2l, 1) := by decide +kernel
set_option maxRecDepth 20000 in
theorem dX6_cell_100 : decode cX6_cell 100 = .ok (.ldc2_w 284, 3) := by decide +kernel
set_option maxRecDepth 20000 in
theorem dX6_cell_103 : decode cX6_cell 103 = .ok (.ldc2_w 286, 3) := by decide +kernel
set_option maxRecDepth 20000 in
theorem dX6_cell_106 : decode cX6_cell 106 = .ok (.invokestatic 150, 3) := by decide +kernel
set_option maxRecDepth 20000 in
theorem dX6_cell_109 : decode cX6_cell 109 = .ok (.ifCond .ne 8, 3) := by decide +kernel
set_option maxRecDepth 20000 in
theorem dX6_cell_112 : decode cX6_cell 112 = .ok (.ldc 218, 2) := by decide +kernel
set_option maxRecDepth 20000 in
theorem dX6_cell_114 : decode cX6_cell 114 = .ok (.goto 40, 3) := by decide +kernel
set_option maxRecDepth 20000 in
theorem dX6_cell_117 : decode cX6_cell 117 = .ok (.iload_n 3, 1) := by decide +kernel
set_option maxRecDepth 20000 in
theorem dX6_cell_118 : decode cX6_cell 118 = .ok (.bipush 10, 2) := by decide +kernel
set_option maxRecDepth 20000 in
theorem dX6_cell_120 : decode cX6_cell 120 = .ok (.isub, 1) := by decide +kernel
set_option maxRecDepth 20000 in
theorem dX6_cell_121 : decode cX6_cell 121 = .ok (.aload_n 0, 1) := by decide +kernel
set_option maxRecDepth 20000 in
theorem dX6_cell_122 : decode cX6_cell 122 = .ok (.getfield 7, 3) := by decide +kernel
set_option maxRecDepth 20000 in
theorem dX6_cell_125 : decode cX6_cell 125 = .ok (.iload_n 2, 1) := by decide +kernel
set_option maxRecDepth 20000 in
theorem dX6_cell_126 : decode cX6_cell 126 = .ok (.invokestatic 60, 3) := by decide +kernel
set_option maxRecDepth 20000 in
theorem dX6_cell_129 : decode cX6_cell 129 = .ok (.if_icmp .ge 22, 3) := by decide +kernel
set_option maxRecDepth 20000 in
theorem dX6_cell_132 : decode cX6_cell 132 = .ok (.aload_n 0, 1) := by decide +kernel
set_option maxRecDepth 20000 in
theorem dX6_cell_133 : decode cX6_cell 133 = .ok (.aload_n 0, 1) := by decide +kernel
set_option maxRecDepth 20000 in
theorem dX6_cell_134 : decode cX6_cell 134 = .ok (.getfield 7, 3) := by decide +kernel
set_option maxRecDepth 20000 in
theorem dX6_cell_137 : decode cX6_cell 137 = .ok (.iload_n 2, 1) := by decide +kernel
set_option maxRecDepth 20000 in
theorem dX6_cell_138 : decode cX6_cell 138 = .ok (.iload_n 3, 1) := by decide +kernel
set_option maxRecDepth 20000 in
theorem dX6_cell_139 : decode cX6_cell 139 = .ok (.bipush 10, 2) := by decide +kernel
set_option maxRecDepth 20000 in
theorem dX6_cell_141 : decode cX6_cell 141 = .ok (.isub, 1) := by decide +kernel
set_option maxRecDepth 20000 in
theorem dX6_cell_142 : decode cX6_cell 142 = .ok (.invokestatic 64, 3) := by decide +kernel
set_option maxRecDepth 20000 in
theorem dX6_cell_145 : decode cX6_cell 145 = .ok (.invokevirtual 288, 3) := by decide +kernel
set_option maxRecDepth 20000 in
theorem dX6_cell_148 : decode cX6_cell 148 = .ok (.goto 6, 3) := by decide +kernel
set_option maxRecDepth 20000 in
theorem dX6_cell_151 : decode cX6_cell 151 = .ok (.ldc_w 291, 3) := by decide +kernel
set_option maxRecDepth 20000 in
theorem dX6_cell_154 : decode cX6_cell 154 = .ok (.ireturn, 1) := by decide +kernel
set_option maxRecDepth 20000 in
theorem dX6_isSealed_0 : decode cX6_isSealed 0 = .ok (.iconst 1, 1) := by decide +kernel
set_option maxRecDepth 20000 in
theorem dX6_isSealed_1 : decode cX6_isSealed 1 = .ok (.istore_n 2, 1) := by decide +kernel
set_option maxRecDepth 20000 in
theorem dX6_isSealed_2 : decode cX6_isSealed 2 = .ok (.iconst 0, 1) := by decide +kernel
set_option maxRecDepth 20000 in
theorem dX6_isSealed_3 : decode cX6_isSealed 3 = .ok (.istore_n 3, 1) := by decide +kernel
set_option maxRecDepth 20000 in
theorem dX6_isSealed_4 : decode cX6_isSealed 4 = .ok (.iload_n 3, 1) := by decide +kernel
set_option maxRecDepth 20000 in
theorem dX6_isSealed_5 : decode cX6_isSealed 5 = .ok (.aload_n 0, 1) := by decide +kernel
set_option maxRecDepth 20000 in
theorem dX6_isSealed_6 : decode cX6_isSealed 6 = .ok (.getfield 7, 3) := by decide +kernel
set_option maxRecDepth 20000 in
theorem dX6_isSealed_9 : decode cX6_isSealed 9 = .ok (.iconst 1, 1) := by decide +kernel
set_option maxRecDepth 20000 in
theorem dX6_isSealed_10 : decode cX6_isSealed 10 = .ok (.iaload, 1) := by decide +kernel
set_option maxRecDepth 20000 in
theorem dX6_isSealed_11 : decode cX6_isSealed 11 = .ok (.if_icmp .ge 28, 3) := by decide +kernel
set_option maxRecDepth 20000 in
theorem dX6_isSealed_14 : decode cX6_isSealed 14 = .ok (.iload_n 2, 1) := by decide +kernel
set_option maxRecDepth 20000 in
theorem dX6_isSealed_15 : decode cX6_isSealed 15 = .ok (.ifCond .eq 16, 3) := by decide +kernel
set_option maxRecDepth 20000 in
theorem dX6_isSealed_18 : decode cX6_isSealed 18 = .ok (.aload_n 0, 1) := by decide +kernel
set_option maxRecDepth 20000 in
theorem dX6_isSealed_19 : decode cX6_isSealed 19 = .ok (.iload_n 3, 1) := by decide +kernel
set_option maxRecDepth 20000 in
theorem dX6_isSealed_20 : decode cX6_isSealed 20 = .ok (.iload_n 1, 1) := by decide +kernel
set_option maxRecDepth 20000 in
theorem dX6_isSealed_21 : decode cX6_isSealed 21 = .ok (.invokevirtual 71, 3) := by decide +kernel
set_option maxRecDepth 20000 in
theorem dX6_isSealed_24 : decode cX6_isSealed 24 = .ok (.ifCond .ne 7, 3) := by decide +kernel
set_option maxRecDepth 20000 in
theorem dX6_isSealed_27 : decode cX6_isSealed 27 = .ok (.iconst 1, 1) := by decide +kernel
set_option maxRecDepth 20000 in
theorem dX6_isSealed_28 : decode cX6_isSealed 28 = .ok (.goto 4, 3) := by decide +kernel
set_option maxRecDepth 20000 in
theorem dX6_isSealed_31 : decode cX6_isSealed 31 = .ok (.iconst 0, 1) := by decide +kernel
set_option maxRecDepth 20000 in
theorem dX6_isSealed_32 : decode cX6_isSealed 32 = .ok (.istore_n 2, 1) := by decide +kernel
set_option maxRecDepth 20000 in
theorem dX6_isSealed_33 : decode cX6_isSealed 33 = .ok (.iinc 3 1, 3) := by decide +kernel
set_option maxRecDepth 20000 in
theorem dX6_isSealed_36 : decode cX6_isSealed 36 = .ok (.goto (-32), 3) := by decide +kernel
set_option maxRecDepth 20000 in
theorem dX6_isSealed_39 : decode cX6_isSealed 39 = .ok (.iload_n 2, 1) := by decide +kernel
set_option maxRecDepth 20000 in
theorem dX6_isSealed_40 : decode cX6_isSealed 40 = .ok (.ireturn, 1) := by decide +kernel
set_option maxRecDepth 20000 in
theorem dX6_as_0 : decode cX6_as 0 = .ok (.aload_n 0, 1) := by decide +kernel
set_option maxRecDepth 20000 in
theorem dX6_as_1 : decode cX6_as 1 = .ok (.iload_n 1, 1) := by decide +kernel
set_option maxRecDepth 20000 in
theorem dX6_as_2 : decode cX6_as 2 = .ok (.iload_n 2, 1) := by decide +kernel
set_option maxRecDepth 20000 in
theorem dX6_as_3 : decode cX6_as 3 = .ok (.invokevirtual 247, 3) := by decide +kernel
set_option maxRecDepth 20000 in
theorem dX6_as_6 : decode cX6_as 6 = .ok (.ifCond .eq 15, 3) := by decide +kernel
set_option maxRecDepth 20000 in
theorem dX6_as_9 : decode cX6_as 9 = .ok (.iload_n 3, 1) := by decide +kernel
set_option maxRecDepth 20000 in
theorem dX6_as_10 : decode cX6_as 10 = .ok (.i2l, 1) := by decide +kernel
set_option maxRecDepth 20000 in
theorem dX6_as_11 : decode cX6_as 11 = .ok (.lconst 0, 1) := by decide +kernel
set_option maxRecDepth 20000 in
theorem dX6_as_12 : decode cX6_as 12 = .ok (.ldc2_w 292, 3) := by decide +kernel
set_option maxRecDepth 20000 in
theorem dX6_as_15 : decode cX6_as 15 = .ok (.invokestatic 150, 3) := by decide +kernel
set_option maxRecDepth 20000 in
theorem dX6_as_18 : decode cX6_as 18 = .ok (.ifCond .ne 6, 3) := by decide +kernel
set_option maxRecDepth 20000 in
theorem dX6_as_21 : decode cX6_as 21 = .ok (.ldc 218, 2) := by decide +kernel
set_option maxRecDepth 20000 in
theorem dX6_as_23 : decode cX6_as 23 = .ok (.ireturn, 1) := by decide +kernel
set_option maxRecDepth 20000 in
theorem dX6_as_24 : decode cX6_as 24 = .ok (.iload_n 3, 1) := by decide +kernel
set_option maxRecDepth 20000 in
theorem dX6_as_25 : decode cX6_as 25 = .ok (.ifCond .eq 68, 3) := by decide +kernel
set_option maxRecDepth 20000 in
theorem dX6_as_28 : decode cX6_as 28 = .ok (.iload_n 3, 1) := by decide +kernel
set_option maxRecDepth 20000 in
theorem dX6_as_29 : decode cX6_as 29 = .ok (.iload_n 1, 1) := by decide +kernel
set_option maxRecDepth 20000 in
theorem dX6_as_30 : decode cX6_as 30 = .ok (.iconst 2, 1) := by decide +kernel
set_option maxRecDepth 20000 in
theorem dX6_as_31 : decode cX6_as 31 = .ok (.if_icmp .ne 7, 3) := by decide +kernel
set_option maxRecDepth 20000 in
theorem dX6_as_34 : decode cX6_as 34 = .ok (.iconst 4, 1) := by decide +kernel
set_option maxRecDepth 20000 in
theorem dX6_as_35 : decode cX6_as 35 = .ok (.goto 6, 3) := by decide +kernel
set_option maxRecDepth 20000 in
theorem dX6_as_38 : decode cX6_as 38 = .ok (.iload_n 1, 1) := by decide +kernel
set_option maxRecDepth 20000 in
theorem dX6_as_39 : decode cX6_as 39 = .ok (.iconst 1, 1) := by decide +kernel
set_option maxRecDepth 20000 in
theorem dX6_as_40 : decode cX6_as 40 = .ok (.iadd, 1) := by decide +kernel
set_option maxRecDepth 20000 in
theorem dX6_as_41 : decode cX6_as 41 = .ok (.if_icmp .eq 52, 3) := by decide +kernel
set_option maxRecDepth 20000 in
theorem dX6_as_44 : decode cX6_as 44 = .ok (.iload_n 3, 1) := by decide +kernel
set_option maxRecDepth 20000 in
theorem dX6_as_45 : decode cX6_as 45 = .ok (.iconst 3, 1) := by decide +kernel
set_option maxRecDepth 20000 in
theorem dX6_as_46 : decode cX6_as 46 = .ok (.if_icmp .ne 29, 3) := by decide +kernel
set_option maxRecDepth 20000 in
theorem dX6_as_49 : decode cX6_as 49 = .ok (.iload_n 1, 1) := by decide +kernel
set_option maxRecDepth 20000 in
theorem dX6_as_50 : decode cX6_as 50 = .ok (.iconst 1, 1) := by decide +kernel
set_option maxRecDepth 20000 in
theorem dX6_as_51 : decode cX6_as 51 = .ok (.if_icmp .ne 24, 3) := by decide +kernel
set_option maxRecDepth 20000 in
theorem dX6_as_54 : decode cX6_as 54 = .ok (.aload_n 0, 1) := by decide +kernel
set_option maxRecDepth 20000 in
theorem dX6_as_55 : decode cX6_as 55 = .ok (.getfield 7, 3) := by decide +kernel
set_option maxRecDepth 20000 in
theorem dX6_as_58 : decode cX6_as 58 = .ok (.iload_n 2, 1) := by decide +kernel
set_option maxRecDepth 20000 in
theorem dX6_as_59 : decode cX6_as 59 = .ok (.iconst 0, 1) := by decide +kernel
set_option maxRecDepth 20000 in
theorem dX6_as_60 : decode cX6_as 60 = .ok (.invokestatic 56, 3) := by decide +kernel
set_option maxRecDepth 20000 in
theorem dX6_as_63 : decode cX6_as 63 = .ok (.aload_n 0, 1) := by decide +kernel
set_option maxRecDepth 20000 in
theorem dX6_as_64 : decode cX6_as 64 = .ok (.getfield 7, 3) := by decide +kernel
set_option maxRecDepth 20000 in
theorem dX6_as_67 : decode cX6_as 67 = .ok (.iload_n 2, 1) := by decide +kernel
set_option maxRecDepth 20000 in
theorem dX6_as_68 : decode cX6_as 68 = .ok (.iconst 1, 1) := by decide +kernel
set_option maxRecDepth 20000 in
theorem dX6_as_69 : decode cX6_as 69 = .ok (.invokestatic 56, 3) := by decide +kernel
set_option maxRecDepth 20000 in
theorem dX6_as_72 : decode cX6_as 72 = .ok (.if_icmp .eq 21, 3) := by decide +kernel
set_option maxRecDepth 20000 in
theorem dX6_as_75 : decode cX6_as 75 = .ok (.iload_n 3, 1) := by decide +kernel
set_option maxRecDepth 20000 in
theorem dX6_as_76 : decode cX6_as 76 = .ok (.iconst 5, 1) := by decide +kernel
set_option maxRecDepth 20000 in
theorem dX6_as_77 : decode cX6_as 77 = .ok (.if_icmp .ne 20, 3) := by decide +kernel
set_option maxRecDepth 20000 in
theorem dX6_as_80 : decode cX6_as 80 = .ok (.iload_n 1, 1) := by decide +kernel
set_option maxRecDepth 20000 in
theorem dX6_as_81 : decode cX6_as 81 = .ok (.iconst 2, 1) := by decide +kernel
set_option maxRecDepth 20000 in
theorem dX6_as_82 : decode cX6_as 82 = .ok (.if_icmp .ne 15, 3) := by decide +kernel
set_option maxRecDepth 20000 in
theorem dX6_as_85 : decode cX6_as 85 = .ok (.aload_n 0, 1) := by decide +kernel
set_option maxRecDepth 20000 in
theorem dX6_as_86 : decode cX6_as 86 = .ok (.iload_n 2, 1) := by decide +kernel
set_option maxRecDepth 20000 in
theorem dX6_as_87 : decode cX6_as 87 = .ok (.invokevirtual 294, 3) := by decide +kernel
set_option maxRecDepth 20000 in
theorem dX6_as_90 : decode cX6_as 90 = .ok (.ifCond .eq 7, 3) := by decide +kernel
set_option maxRecDepth 20000 in
theorem dX6_as_93 : decode cX6_as 93 = .ok (.iconst 1, 1) := by decide +kernel
set_option maxRecDepth 20000 in
theorem dX6_as_94 : decode cX6_as 94 = .ok (.goto 4, 3) := by decide +kernel
set_option maxRecDepth 20000 in
theorem dX6_as_97 : decode cX6_as 97 = .ok (.iconst 0, 1) := by decide +kernel
set_option maxRecDepth 20000 in
theorem dX6_as_98 : decode cX6_as 98 = .ok (.istore 4, 2) := by decide +kernel
set_option maxRecDepth 20000 in
theorem dX6_as_100 : decode cX6_as 100 = .ok (.iload 4, 2) := by decide +kernel
set_option maxRecDepth 20000 in
theorem dX6_as_102 : decode cX6_as 102 = .ok (.ifCond .eq 7, 3) := by decide +kernel
set_option maxRecDepth 20000 in
theorem dX6_as_105 : decode cX6_as 105 = .ok (.iload_n 2, 1) := by decide +kernel
set_option maxRecDepth 20000 in
theorem dX6_as_106 : decode cX6_as 106 = .ok (.goto 6, 3) := by decide +kernel
set_option maxRecDepth 20000 in
theorem dX6_as_109 : decode cX6_as 109 = .ok (.ldc_w 291, 3) := by decide +kernel
set_option maxRecDepth 20000 in
theorem dX6_as_112 : decode cX6_as 112 = .ok (.ireturn, 1) := by decide +kernel
set_option maxRecDepth 20000 in
theorem dX6_table_0 : decode cX6_table 0 = .ok (.iload_n 1, 1) := by decide +kernel
set_option maxRecDepth 20000 in
theorem dX6_table_1 : decode cX6_table 1 = .ok (.i2l, 1) := by decide +kernel
set_option maxRecDepth 20000 in
theorem dX6_table_2 : decode cX6_table 2 = .ok (.lconst 1, 1) := by decide +kernel
set_option maxRecDepth 20000 in
theorem dX6_table_3 : decode cX6_table 3 = .ok (.ldc2_w 242, 3) := by decide +kernel
set_option maxRecDepth 20000 in
theorem dX6_table_6 : decode cX6_table 6 = .ok (.invokestatic 150, 3) := by decide +kernel
set_option maxRecDepth 20000 in
theorem dX6_table_9 : decode cX6_table 9 = .ok (.ifCond .eq 37, 3) := by decide +kernel
set_option maxRecDepth 20000 in
theorem dX6_table_12 : decode cX6_table 12 = .ok (.iload_n 2, 1) := by decide +kernel
set_option maxRecDepth 20000 in
theorem dX6_table_13 : decode cX6_table 13 = .ok (.i2l, 1) := by decide +kernel
set_option maxRecDepth 20000 in
theorem dX6_table_14 : decode cX6_table 14 = .ok (.lconst 0, 1) := by decide +kernel
set_option maxRecDepth 20000 in
theorem dX6_table_15 : decode cX6_table 15 = .ok (.aload_n 0, 1) := by decide +kernel
set_option maxRecDepth 20000 in
theorem dX6_table_16 : decode cX6_table 16 = .ok (.iload_n 1, 1) := by decide +kernel
set_option maxRecDepth 20000 in
theorem dX6_table_17 : decode cX6_table 17 = .ok (.invokevirtual 96, 3) := by decide +kernel
set_option maxRecDepth 20000 in
theorem dX6_table_20 : decode cX6_table 20 = .ok (.iconst 1, 1) := by decide +kernel
set_option maxRecDepth 20000 in
theorem dX6_table_21 : decode cX6_table 21 = .ok (.isub, 1) := by decide +kernel
set_option maxRecDepth 20000 in
theorem dX6_table_22 : decode cX6_table 22 = .ok (.i2l, 1) := by decide +kernel
set_option maxRecDepth 20000 in
theorem dX6_table_23 : decode cX6_table 23 = .ok (.invokestatic 150, 3) := by decide +kernel
set_option maxRecDepth 20000 in
theorem dX6_table_26 : decode cX6_table 26 = .ok (.ifCond .eq 20, 3) := by decide +kernel
set_option maxRecDepth 20000 in
theorem dX6_table_29 : decode cX6_table 29 = .ok (.iload_n 3, 1) := by decide +kernel
set_option maxRecDepth 20000 in
theorem dX6_table_30 : decode cX6_table 30 = .ok (.i2l, 1) := by decide +kernel
set_option maxRecDepth 20000 in
theorem dX6_table_31 : decode cX6_table 31 = .ok (.lconst 0, 1) := by decide +kernel
set_option maxRecDepth 20000 in
theorem dX6_table_32 : decode cX6_table 32 = .ok (.aload_n 0, 1) := by decide +kernel
set_option maxRecDepth 20000 in
theorem dX6_table_33 : decode cX6_table 33 = .ok (.iload_n 1, 1) := by decide +kernel
set_option maxRecDepth 20000 in
theorem dX6_table_34 : decode cX6_table 34 = .ok (.invokevirtual 74, 3) := by decide +kernel
set_option maxRecDepth 20000 in
theorem dX6_table_37 : decode cX6_table 37 = .ok (.iconst 1, 1) := by decide +kernel
set_option maxRecDepth 20000 in
theorem dX6_table_38 : decode cX6_table 38 = .ok (.isub, 1) := by decide +kernel
set_option maxRecDepth 20000 in
theorem dX6_table_39 : decode cX6_table 39 = .ok (.i2l, 1) := by decide +kernel
set_option maxRecDepth 20000 in
theorem dX6_table_40 : decode cX6_table 40 = .ok (.invokestatic 150, 3) := by decide +kernel
set_option maxRecDepth 20000 in
theorem dX6_table_43 : decode cX6_table 43 = .ok (.ifCond .ne 6, 3) := by decide +kernel
set_option maxRecDepth 20000 in
theorem dX6_table_46 : decode cX6_table 46 = .ok (.ldc 218, 2) := by decide +kernel
set_option maxRecDepth 20000 in
theorem dX6_table_48 : decode cX6_table 48 = .ok (.ireturn, 1) := by decide +kernel
set_option maxRecDepth 20000 in
theorem dX6_table_49 : decode cX6_table 49 = .ok (.aload_n 0, 1) := by decide +kernel
set_option maxRecDepth 20000 in
theorem dX6_table_50 : decode cX6_table 50 = .ok (.iload_n 1, 1) := by decide +kernel
set_option maxRecDepth 20000 in
theorem dX6_table_51 : decode cX6_table 51 = .ok (.iload_n 2, 1) := by decide +kernel
set_option maxRecDepth 20000 in
theorem dX6_table_52 : decode cX6_table 52 = .ok (.iload_n 3, 1) := by decide +kernel
set_option maxRecDepth 20000 in
theorem dX6_table_53 : decode cX6_table 53 = .ok (.invokevirtual 77, 3) := by decide +kernel
set_option maxRecDepth 20000 in
theorem dX6_table_56 : decode cX6_table 56 = .ok (.ireturn, 1) := by decide +kernel
set_option maxRecDepth 20000 in
theorem dX6_nearSize_0 : decode cX6_nearSize 0 = .ok (.iload_n 1, 1) := by decide +kernel
set_option maxRecDepth 20000 in
theorem dX6_nearSize_1 : decode cX6_nearSize 1 = .ok (.ifCond .ne 12, 3) := by decide +kernel
set_option maxRecDepth 20000 in
theorem dX6_nearSize_4 : decode cX6_nearSize 4 = .ok (.aload_n 0, 1) := by decide +kernel
set_option maxRecDepth 20000 in
theorem dX6_nearSize_5 : decode cX6_nearSize 5 = .ok (.getfield 7, 3) := by decide +kernel
set_option maxRecDepth 20000 in
theorem dX6_nearSize_8 : decode cX6_nearSize 8 = .ok (.iconst 0, 1) := by decide +kernel
set_option maxRecDepth 20000 in
theorem dX6_nearSize_9 : decode cX6_nearSize 9 = .ok (.iaload, 1) := by decide +kernel
set_option maxRecDepth 20000 in
theorem dX6_nearSize_10 : decode cX6_nearSize 10 = .ok (.goto 9, 3) := by decide +kernel
set_option maxRecDepth 20000 in
theorem dX6_nearSize_13 : decode cX6_nearSize 13 = .ok (.aload_n 0, 1) := by decide +kernel
set_option maxRecDepth 20000 in
theorem dX6_nearSize_14 : decode cX6_nearSize 14 = .ok (.getfield 7, 3) := by decide +kernel
set_option maxRecDepth 20000 in
theorem dX6_nearSize_17 : decode cX6_nearSize 17 = .ok (.iconst 1, 1) := by decide +kernel
set_option maxRecDepth 20000 in
theorem dX6_nearSize_18 : decode cX6_nearSize 18 = .ok (.iaload, 1) := by decide +kernel
set_option maxRecDepth 20000 in
theorem dX6_nearSize_19 : decode cX6_nearSize 19 = .ok (.ireturn, 1) := by decide +kernel
set_option maxRecDepth 20000 in
theorem dX6_near_0 : decode cX6_near 0 = .ok (.iload_n 1, 1) := by decide +kernel
set_option maxRecDepth 20000 in
theorem dX6_near_1 : decode cX6_near 1 = .ok (.i2l, 1) := by decide +kernel
set_option maxRecDepth 20000 in
theorem dX6_near_2 : decode cX6_near 2 = .ok (.lconst 0, 1) := by decide +kernel
set_option maxRecDepth 20000 in
theorem dX6_near_3 : decode cX6_near 3 = .ok (.ldc2_w 242, 3) := by decide +kernel
set_option maxRecDepth 20000 in
theorem dX6_near_6 : decode cX6_near 6 = .ok (.invokestatic 150, 3) := by decide +kernel
set_option maxRecDepth 20000 in
theorem dX6_near_9 : decode cX6_near 9 = .ok (.ifCond .eq 37, 3) := by decide +kernel
set_option maxRecDepth 20000 in
theorem dX6_near_12 : decode cX6_near 12 = .ok (.iload_n 2, 1) := by decide +kernel
set_option maxRecDepth 20000 in
theorem dX6_near_13 : decode cX6_near 13 = .ok (.i2l, 1) := by decide +kernel
set_option maxRecDepth 20000 in
theorem dX6_near_14 : decode cX6_near 14 = .ok (.lconst 0, 1) := by decide +kernel
set_option maxRecDepth 20000 in
theorem dX6_near_15 : decode cX6_near 15 = .ok (.aload_n 0, 1) := by decide +kernel
set_option maxRecDepth 20000 in
theorem dX6_near_16 : decode cX6_near 16 = .ok (.iload_n 1, 1) := by decide +kernel
set_option maxRecDepth 20000 in
theorem dX6_near_17 : decode cX6_near 17 = .ok (.invokevirtual 297, 3) := by decide +kernel
set_option maxRecDepth 20000 in
theorem dX6_near_20 : decode cX6_near 20 = .ok (.iconst 1, 1) := by decide +kernel
set_option maxRecDepth 20000 in
theorem dX6_near_21 : decode cX6_near 21 = .ok (.isub, 1) := by decide +kernel
set_option maxRecDepth 20000 in
theorem dX6_near_22 : decode cX6_near 22 = .ok (.i2l, 1) := by decide +kernel
set_option maxRecDepth 20000 in
theorem dX6_near_23 : decode cX6_near 23 = .ok (.invokestatic 150, 3) := by decide +kernel
set_option maxRecDepth 20000 in
theorem dX6_near_26 : decode cX6_near 26 = .ok (.ifCond .eq 20, 3) := by decide +kernel
set_option maxRecDepth 20000 in
theorem dX6_near_29 : decode cX6_near 29 = .ok (.iload_n 3, 1) := by decide +kernel
set_option maxRecDepth 20000 in
theorem dX6_near_30 : decode cX6_near 30 = .ok (.i2l, 1) := by decide +kernel
set_option maxRecDepth 20000 in
theorem dX6_near_31 : decode cX6_near 31 = .ok (.lconst 0, 1) := by decide +kernel
set_option maxRecDepth 20000 in
theorem dX6_near_32 : decode cX6_near 32 = .ok (.aload_n 0, 1) := by decide +kernel
set_option maxRecDepth 20000 in
theorem dX6_near_33 : decode cX6_near 33 = .ok (.iload_n 1, 1) := by decide +kernel
set_option maxRecDepth 20000 in
theorem dX6_near_34 : decode cX6_near 34 = .ok (.invokevirtual 297, 3) := by decide +kernel
set_option maxRecDepth 20000 in
theorem dX6_near_37 : decode cX6_near 37 = .ok (.iconst 1, 1) := by decide +kernel
set_option maxRecDepth 20000 in
theorem dX6_near_38 : decode cX6_near 38 = .ok (.isub, 1) := by decide +kernel
set_option maxRecDepth 20000 in
theorem dX6_near_39 : decode cX6_near 39 = .ok (.i2l, 1) := by decide +kernel
set_option maxRecDepth 20000 in
theorem dX6_near_40 : decode cX6_near 40 = .ok (.invokestatic 150, 3) := by decide +kernel
set_option maxRecDepth 20000 in
theorem dX6_near_43 : decode cX6_near 43 = .ok (.ifCond .ne 6, 3) := by decide +kernel
set_option maxRecDepth 20000 in
theorem dX6_near_46 : decode cX6_near 46 = .ok (.ldc 218, 2) := by decide +kernel
set_option maxRecDepth 20000 in
theorem dX6_near_48 : decode cX6_near 48 = .ok (.ireturn, 1) := by decide +kernel
set_option maxRecDepth 20000 in
theorem dX6_near_49 : decode cX6_near 49 = .ok (.aload_n 0, 1) := by decide +kernel
set_option maxRecDepth 20000 in
theorem dX6_near_50 : decode cX6_near 50 = .ok (.iload_n 1, 1) := by decide +kernel
set_option maxRecDepth 20000 in
theorem dX6_near_51 : decode cX6_near 51 = .ok (.iload_n 2, 1) := by decide +kernel
set_option maxRecDepth 20000 in
theorem dX6_near_52 : decode cX6_near 52 = .ok (.iload_n 3, 1) := by decide +kernel
set_option maxRecDepth 20000 in
theorem dX6_near_53 : decode cX6_near 53 = .ok (.invokevirtual 300, 3) := by decide +kernel
set_option maxRecDepth 20000 in
theorem dX6_near_56 : decode cX6_near 56 = .ok (.ireturn, 1) := by decide +kernel
set_option maxRecDepth 20000 in
theorem dX6_isPrime_0 : decode cX6_isPrime 0 = .ok (.iload_n 0, 1) := by decide +kernel
set_option maxRecDepth 20000 in
theorem dX6_isPrime_1 : decode cX6_isPrime 1 = .ok (.ifCond .eq 24, 3) := by decide +kernel
set_option maxRecDepth 20000 in
theorem dX6_isPrime_4 : decode cX6_isPrime 4 = .ok (.iload_n 0, 1) := by decide +kernel
set_option maxRecDepth 20000 in
theorem dX6_isPrime_5 : decode cX6_isPrime 5 = .ok (.iconst 2, 1) := by decide +kernel
set_option maxRecDepth 20000 in
theorem dX6_isPrime_6 : decode cX6_isPrime 6 = .ok (.if_icmp .eq 19, 3) := by decide +kernel
set_option maxRecDepth 20000 in
theorem dX6_isPrime_9 : decode cX6_isPrime 9 = .ok (.iload_n 0, 1) := by decide +kernel
set_option maxRecDepth 20000 in
theorem dX6_isPrime_10 : decode cX6_isPrime 10 = .ok (.iconst 3, 1) := by decide +kernel
set_option maxRecDepth 20000 in
theorem dX6_isPrime_11 : decode cX6_isPrime 11 = .ok (.if_icmp .eq 14, 3) := by decide +kernel
set_option maxRecDepth 20000 in
theorem dX6_isPrime_14 : decode cX6_isPrime 14 = .ok (.iload_n 0, 1) := by decide +kernel
set_option maxRecDepth 20000 in
theorem dX6_isPrime_15 : decode cX6_isPrime 15 = .ok (.iconst 5, 1) := by decide +kernel
set_option maxRecDepth 20000 in
theorem dX6_isPrime_16 : decode cX6_isPrime 16 = .ok (.if_icmp .eq 9, 3) := by decide +kernel
set_option maxRecDepth 20000 in
theorem dX6_isPrime_19 : decode cX6_isPrime 19 = .ok (.iload_n 0, 1) := by decide +kernel
set_option maxRecDepth 20000 in
theorem dX6_isPrime_20 : decode cX6_isPrime 20 = .ok (.bipush 7, 2) := by decide +kernel
set_option maxRecDepth 20000 in
theorem dX6_isPrime_22 : decode cX6_isPrime 22 = .ok (.if_icmp .ne 7, 3) := by decide +kernel
set_option maxRecDepth 20000 in
theorem dX6_isPrime_25 : decode cX6_isPrime 25 = .ok (.iconst 1, 1) := by decide +kernel
set_option maxRecDepth 20000 in
theorem dX6_isPrime_26 : decode cX6_isPrime 26 = .ok (.goto 4, 3) := by decide +kernel
set_option maxRecDepth 20000 in
theorem dX6_isPrime_29 : decode cX6_isPrime 29 = .ok (.iconst 0, 1) := by decide +kernel
set_option maxRecDepth 20000 in
theorem dX6_isPrime_30 : decode cX6_isPrime 30 = .ok (.ireturn, 1) := by decide +kernel
set_option maxRecDepth 20000 in
theorem dX6_rankFor_0 : decode cX6_rankFor 0 = .ok (.iload_n 2, 1) := by decide +kernel
set_option maxRecDepth 20000 in
theorem dX6_rankFor_1 : decode cX6_rankFor 1 = .ok (.ifCond .ne 9, 3) := by decide +kernel
set_option maxRecDepth 20000 in
theorem dX6_rankFor_4 : decode cX6_rankFor 4 = .ok (.aload_n 0, 1) := by decide +kernel
set_option maxRecDepth 20000 in
theorem dX6_rankFor_5 : decode cX6_rankFor 5 = .ok (.iload_n 1, 1) := by decide +kernel
set_option maxRecDepth 20000 in
theorem dX6_rankFor_6 : decode cX6_rankFor 6 = .ok (.invokevirtual 303, 3) := by decide +kernel
set_option maxRecDepth 20000 in
theorem dX6_rankFor_9 : decode cX6_rankFor 9 = .ok (.ireturn, 1) := by decide +kernel
set_option maxRecDepth 20000 in
theorem dX6_rankFor_10 : decode cX6_rankFor 10 = .ok (.aload_n 0, 1) := by decide +kernel
set_option maxRecDepth 20000 in
theorem dX6_rankFor_11 : decode cX6_rankFor 11 = .ok (.iload_n 1, 1) := by decide +kernel
set_option maxRecDepth 20000 in
theorem dX6_rankFor_12 : decode cX6_rankFor 12 = .ok (.invokevirtual 306, 3) := by decide +kernel
set_option maxRecDepth 20000 in
theorem dX6_rankFor_15 : decode cX6_rankFor 15 = .ok (.aload_n 0, 1) := by decide +kernel
set_option maxRecDepth 20000 in
theorem dX6_rankFor_16 : decode cX6_rankFor 16 = .ok (.aload_n 0, 1) := by decide +kernel
set_option maxRecDepth 20000 in
theorem dX6_rankFor_17 : decode cX6_rankFor 17 = .ok (.iload_n 1, 1) := by decide +kernel
set_option maxRecDepth 20000 in
theorem dX6_rankFor_18 : decode cX6_rankFor 18 = .ok (.invokevirtual 96, 3) := by decide +kernel
set_option maxRecDepth 20000 in
theorem dX6_rankFor_21 : decode cX6_rankFor 21 = .ok (.aload_n 0, 1) := by decide +kernel
set_option maxRecDepth 20000 in
theorem dX6_rankFor_22 : decode cX6_rankFor 22 = .ok (.iload_n 1, 1) := by decide +kernel
set_option maxRecDepth 20000 in
theorem dX6_rankFor_23 : decode cX6_rankFor 23 = .ok (.invokevirtual 74, 3) := by decide +kernel
set_option maxRecDepth 20000 in
theorem dX6_rankFor_26 : decode cX6_rankFor 26 = .ok (.iload_n 2, 1) := by decide +kernel
set_option maxRecDepth 20000 in
theorem dX6_rankFor_27 : decode cX6_rankFor 27 = .ok (.invokevirtual 309, 3) := by decide +kernel
set_option maxRecDepth 20000 in
theorem dX6_rankFor_30 : decode cX6_rankFor 30 = .ok (.ireturn, 1) := by decide +kernel
set_option maxRecDepth 20000 in
theorem dX6_rank_0 : decode cX6_rank 0 = .ok (.aload_n 0, 1) := by decide +kernel
set_option maxRecDepth 20000 in
theorem dX6_rank_1 : decode cX6_rank 1 = .ok (.invokevirtual 244, 3) := by decide +kernel
set_option maxRecDepth 20000 in
theorem dX6_rank_4 : decode cX6_rank 4 = .ok (.ifCond .ne 6, 3) := by decide +kernel
set_option maxRecDepth 20000 in
theorem dX6_rank_7 : decode cX6_rank 7 = .ok (.ldc 241, 2) := by decide +kernel
set_option maxRecDepth 20000 in
theorem dX6_rank_9 : decode cX6_rank 9 = .ok (.ireturn, 1) := by decide +kernel
set_option maxRecDepth 20000 in
theorem dX6_rank_10 : decode cX6_rank 10 = .ok (.iload_n 1, 1) := by decide +kernel
set_option maxRecDepth 20000 in
theorem dX6_rank_11 : decode cX6_rank 11 = .ok (.i2l, 1) := by decide +kernel
set_option maxRecDepth 20000 in
theorem dX6_rank_12 : decode cX6_rank 12 = .ok (.lconst 1, 1) := by decide +kernel
set_option maxRecDepth 20000 in
theorem dX6_rank_13 : decode cX6_rank 13 = .ok (.ldc2_w 242, 3) := by decide +kernel
set_option maxRecDepth 20000 in
theorem dX6_rank_16 : decode cX6_rank 16 = .ok (.invokestatic 150, 3) := by decide +kernel
set_option maxRecDepth 20000 in
theorem dX6_rank_19 : decode cX6_rank 19 = .ok (.ifCond .eq 19, 3) := by decide +kernel
set_option maxRecDepth 20000 in
theorem dX6_rank_22 : decode cX6_rank 22 = .ok (.iload_n 2, 1) := by decide +kernel
set_option maxRecDepth 20000 in
theorem dX6_rank_23 : decode cX6_rank 23 = .ok (.invokestatic 312, 3) := by decide +kernel
set_option maxRecDepth 20000 in
theorem dX6_rank_26 : decode cX6_rank 26 = .ok (.ifCond .eq 12, 3) := by decide +kernel
set_option maxRecDepth 20000 in
theorem dX6_rank_29 : decode cX6_rank 29 = .ok (.aload_n 0, 1) := by decide +kernel
set_option maxRecDepth 20000 in
theorem dX6_rank_30 : decode cX6_rank 30 = .ok (.iload_n 1, 1) := by decide +kernel
set_option maxRecDepth 20000 in
theorem dX6_rank_31 : decode cX6_rank 31 = .ok (.iload_n 2, 1) := by decide +kernel
set_option maxRecDepth 20000 in
theorem dX6_rank_32 : decode cX6_rank 32 = .ok (.invokevirtual 315, 3) := by decide +kernel
set_option maxRecDepth 20000 in
theorem dX6_rank_35 : decode cX6_rank 35 = .ok (.goto 5, 3) := by decide +kernel
set_option maxRecDepth 20000 in
theorem dX6_rank_38 : decode cX6_rank 38 = .ok (.ldc 218, 2) := by decide +kernel
set_option maxRecDepth 20000 in
theorem dX6_rank_40 : decode cX6_rank 40 = .ok (.ireturn, 1) := by decide +kernel
set_option maxRecDepth 20000 in
theorem dX6_holes_0 : decode cX6_holes 0 = .ok (.aload_n 0, 1) := by decide +kernel
set_option maxRecDepth 20000 in
theorem dX6_holes_1 : decode cX6_holes 1 = .ok (.invokevirtual 244, 3) := by decide +kernel
set_option maxRecDepth 20000 in
theorem dX6_holes_4 : decode cX6_holes 4 = .ok (.ifCond .ne 6, 3) := by decide +kernel
set_option maxRecDepth 20000 in
theorem dX6_holes_7 : decode cX6_holes 7 = .ok (.ldc 241, 2) := by decide +kernel
set_option maxRecDepth 20000 in
theorem dX6_holes_9 : decode cX6_holes 9 = .ok (.ireturn, 1) := by decide +kernel
set_option maxRecDepth 20000 in
theorem dX6_holes_10 : decode cX6_holes 10 = .ok (.iload_n 1, 1) := by decide +kernel
set_option maxRecDepth 20000 in
theorem dX6_holes_11 : decode cX6_holes 11 = .ok (.i2l, 1) := by decide +kernel
set_option maxRecDepth 20000 in
theorem dX6_holes_12 : decode cX6_holes 12 = .ok (.lconst 0, 1) := by decide +kernel
set_option maxRecDepth 20000 in
theorem dX6_holes_13 : decode cX6_holes 13 = .ok (.ldc2_w 242, 3) := by decide +kernel
set_option maxRecDepth 20000 in
theorem dX6_holes_16 : decode cX6_holes 16 = .ok (.invokestatic 150, 3) := by decide +kernel
set_option maxRecDepth 20000 in
theorem dX6_holes_19 : decode cX6_holes 19 = .ok (.ifCond .eq 10, 3) := by decide +kernel
set_option maxRecDepth 20000 in
theorem dX6_holes_22 : decode cX6_holes 22 = .ok (.iload_n 2, 1) := by decide +kernel
set_option maxRecDepth 20000 in
theorem dX6_holes_23 : decode cX6_holes 23 = .ok (.invokestatic 312, 3) := by decide +kernel
set_option maxRecDepth 20000 in
theorem dX6_holes_26 : decode cX6_holes 26 = .ok (.ifCond .ne 6, 3) := by decide +kernel
set_option maxRecDepth 20000 in
theorem dX6_holes_29 : decode cX6_holes 29 = .ok (.ldc 218, 2) := by decide +kernel
set_option maxRecDepth 20000 in
theorem dX6_holes_31 : decode cX6_holes 31 = .ok (.ireturn, 1) := by decide +kernel
set_option maxRecDepth 20000 in
theorem dX6_holes_32 : decode cX6_holes 32 = .ok (.aload_n 0, 1) := by decide +kernel
set_option maxRecDepth 20000 in
theorem dX6_holes_33 : decode cX6_holes 33 = .ok (.iconst 1, 1) := by decide +kernel
set_option maxRecDepth 20000 in
theorem dX6_holes_34 : decode cX6_holes 34 = .ok (.iload_n 2, 1) := by decide +kernel
set_option maxRecDepth 20000 in
theorem dX6_holes_35 : decode cX6_holes 35 = .ok (.invokevirtual 315, 3) := by decide +kernel
set_option maxRecDepth 20000 in
theorem dX6_holes_38 : decode cX6_holes 38 = .ok (.istore_n 3, 1) := by decide +kernel
set_option maxRecDepth 20000 in
theorem dX6_holes_39 : decode cX6_holes 39 = .ok (.aload_n 0, 1) := by decide +kernel
set_option maxRecDepth 20000 in
theorem dX6_holes_40 : decode cX6_holes 40 = .ok (.iconst 2, 1) := by decide +kernel
set_option maxRecDepth 20000 in
theorem dX6_holes_41 : decode cX6_holes 41 = .ok (.iload_n 2, 1) := by decide +kernel
set_option maxRecDepth 20000 in
theorem dX6_holes_42 : decode cX6_holes 42 = .ok (.invokevirtual 315, 3) := by decide +kernel
set_option maxRecDepth 20000 in
theorem dX6_holes_45 : decode cX6_holes 45 = .ok (.istore 4, 2) := by decide +kernel
set_option maxRecDepth 20000 in
theorem dX6_holes_47 : decode cX6_holes 47 = .ok (.iload_n 1, 1) := by decide +kernel
set_option maxRecDepth 20000 in
theorem dX6_holes_48 : decode cX6_holes 48 = .ok (.ifCond .ne 14, 3) := by decide +kernel
set_option maxRecDepth 20000 in
theorem dX6_holes_51 : decode cX6_holes 51 = .ok (.aload_n 0, 1) := by decide +kernel
set_option maxRecDepth 20000 in
theorem dX6_holes_52 : decode cX6_holes 52 = .ok (.getfield 7, 3) := by decide +kernel
set_option maxRecDepth 20000 in
theorem dX6_holes_55 : decode cX6_holes 55 = .ok (.iconst 0, 1) := by decide +kernel
set_option maxRecDepth 20000 in
theorem dX6_holes_56 : decode cX6_holes 56 = .ok (.iaload, 1) := by decide +kernel
set_option maxRecDepth 20000 in
theorem dX6_holes_57 : decode cX6_holes 57 = .ok (.iload_n 3, 1) := by decide +kernel
set_option maxRecDepth 20000 in
theorem dX6_holes_58 : decode cX6_holes 58 = .ok (.isub, 1) := by decide +kernel
set_option maxRecDepth 20000 in
theorem dX6_holes_59 : decode cX6_holes 59 = .ok (.goto 31, 3) := by decide +kernel
set_option maxRecDepth 20000 in
theorem dX6_holes_62 : decode cX6_holes 62 = .ok (.iload_n 1, 1) := by decide +kernel
set_option maxRecDepth 20000 in
theorem dX6_holes_63 : decode cX6_holes 63 = .ok (.iconst 1, 1) := by decide +kernel
set_option maxRecDepth 20000 in
theorem dX6_holes_64 : decode cX6_holes 64 = .ok (.if_icmp .ne 17, 3) := by decide +kernel
set_option maxRecDepth 20000 in
theorem dX6_holes_67 : decode cX6_holes 67 = .ok (.aload_n 0, 1) := by decide +kernel
set_option maxRecDepth 20000 in
theorem dX6_holes_68 : decode cX6_holes 68 = .ok (.getfield 7, 3) := by decide +kernel
set_option maxRecDepth 20000 in
theorem dX6_holes_71 : decode cX6_holes 71 = .ok (.iconst 1, 1) := by decide +kernel
set_option maxRecDepth 20000 in
theorem dX6_holes_72 : decode cX6_holes 72 = .ok (.iaload, 1) := by decide +kernel
set_option maxRecDepth 20000 in
theorem dX6_holes_73 : decode cX6_holes 73 = .ok (.iload_n 3, 1) := by decide +kernel
set_option maxRecDepth 20000 in
theorem dX6_holes_74 : decode cX6_holes 74 = .ok (.isub, 1) := by decide +kernel
set_option maxRecDepth 20000 in
theorem dX6_holes_75 : decode cX6_holes 75 = .ok (.iload 4, 2) := by decide +kernel
set_option maxRecDepth 20000 in
theorem dX6_holes_77 : decode cX6_holes 77 = .ok (.isub, 1) := by decide +kernel
set_option maxRecDepth 20000 in
theorem dX6_holes_78 : decode cX6_holes 78 = .ok (.goto 12, 3) := by decide +kernel
set_option maxRecDepth 20000 in
theorem dX6_holes_81 : decode cX6_holes 81 = .ok (.aload_n 0, 1) := by decide +kernel
set_option maxRecDepth 20000 in
theorem dX6_holes_82 : decode cX6_holes 82 = .ok (.getfield 7, 3) := by decide +kernel
set_option maxRecDepth 20000 in
theorem dX6_holes_85 : decode cX6_holes 85 = .ok (.iconst 2, 1) := by decide +kernel
set_option maxRecDepth 20000 in
theorem dX6_holes_86 : decode cX6_holes 86 = .ok (.iaload, 1) := by decide +kernel
set_option maxRecDepth 20000 in
theorem dX6_holes_87 : decode cX6_holes 87 = .ok (.iload 4, 2) := by decide +kernel
set_option maxRecDepth 20000 in
theorem dX6_holes_89 : decode cX6_holes 89 = .ok (.isub, 1) := by decide +kernel
set_option maxRecDepth 20000 in
theorem dX6_holes_90 : decode cX6_holes 90 = .ok (.ireturn, 1) := by decide +kernel
set_option maxRecDepth 20000 in
theorem dX6_twist_0 : decode cX6_twist 0 = .ok (.aload_n 0, 1) := by decide +kernel
set_option maxRecDepth 20000 in
theorem dX6_twist_1 : decode cX6_twist 1 = .ok (.invokevirtual 244, 3) := by decide +kernel
set_option maxRecDepth 20000 in
theorem dX6_twist_4 : decode cX6_twist 4 = .ok (.ifCond .ne 6, 3) := by decide +kernel
set_option maxRecDepth 20000 in
theorem dX6_twist_7 : decode cX6_twist 7 = .ok (.ldc 241, 2) := by decide +kernel
set_option maxRecDepth 20000 in
theorem dX6_twist_9 : decode cX6_twist 9 = .ok (.ireturn, 1) := by decide +kernel
set_option maxRecDepth 20000 in
theorem dX6_twist_10 : decode cX6_twist 10 = .ok (.iload_n 1, 1) := by decide +kernel
set_option maxRecDepth 20000 in
theorem dX6_twist_11 : decode cX6_twist 11 = .ok (.ifCond .lt 16, 3) := by decide +kernel
set_option maxRecDepth 20000 in
theorem dX6_twist_14 : decode cX6_twist 14 = .ok (.iload_n 1, 1) := by decide +kernel
set_option maxRecDepth 20000 in
theorem dX6_twist_15 : decode cX6_twist 15 = .ok (.aload_n 0, 1) := by decide +kernel
set_option maxRecDepth 20000 in
theorem dX6_twist_16 : decode cX6_twist 16 = .ok (.iconst 2, 1) := by decide +kernel
set_option maxRecDepth 20000 in
theorem dX6_twist_17 : decode cX6_twist 17 = .ok (.invokevirtual 124, 3) := by decide +kernel
set_option maxRecDepth 20000 in
theorem dX6_twist_20 : decode cX6_twist 20 = .ok (.if_icmp .gt 7, 3) := by decide +kernel
set_option maxRecDepth 20000 in
theorem dX6_twist_23 : decode cX6_twist 23 = .ok (.iload_n 2, 1) := by decide +kernel
set_option maxRecDepth 20000 in
theorem dX6_twist_24 : decode cX6_twist 24 = .ok (.ifCond .ge 6, 3) := by decide +kernel
set_option maxRecDepth 20000 in
theorem dX6_twist_27 : decode cX6_twist 27 = .ok (.ldc 218, 2) := by decide +kernel
set_option maxRecDepth 20000 in
theorem dX6_twist_29 : decode cX6_twist 29 = .ok (.ireturn, 1) := by decide +kernel
set_option maxRecDepth 20000 in
theorem dX6_twist_30 : decode cX6_twist 30 = .ok (.aload_n 0, 1) := by decide +kernel
set_option maxRecDepth 20000 in
theorem dX6_twist_31 : decode cX6_twist 31 = .ok (.iconst 2, 1) := by decide +kernel
set_option maxRecDepth 20000 in
theorem dX6_twist_32 : decode cX6_twist 32 = .ok (.iload_n 1, 1) := by decide +kernel
set_option maxRecDepth 20000 in
theorem dX6_twist_33 : decode cX6_twist 33 = .ok (.iconst 0, 1) := by decide +kernel
set_option maxRecDepth 20000 in
theorem dX6_twist_34 : decode cX6_twist 34 = .ok (.invokevirtual 127, 3) := by decide +kernel
set_option maxRecDepth 20000 in
theorem dX6_twist_37 : decode cX6_twist 37 = .ok (.istore_n 3, 1) := by decide +kernel
set_option maxRecDepth 20000 in
theorem dX6_twist_38 : decode cX6_twist 38 = .ok (.iload_n 2, 1) := by decide +kernel
set_option maxRecDepth 20000 in
theorem dX6_twist_39 : decode cX6_twist 39 = .ok (.ifCond .ne 13, 3) := by decide +kernel
set_option maxRecDepth 20000 in
theorem dX6_twist_42 : decode cX6_twist 42 = .ok (.aload_n 0, 1) := by decide +kernel
set_option maxRecDepth 20000 in
theorem dX6_twist_43 : decode cX6_twist 43 = .ok (.iconst 2, 1) := by decide +kernel
set_option maxRecDepth 20000 in
theorem dX6_twist_44 : decode cX6_twist 44 = .ok (.iload_n 1, 1) := by decide +kernel
set_option maxRecDepth 20000 in
theorem dX6_twist_45 : decode cX6_twist 45 = .ok (.iload_n 3, 1) := by decide +kernel
set_option maxRecDepth 20000 in
theorem dX6_twist_46 : decode cX6_twist 46 = .ok (.iconst 0, 1) := by decide +kernel
set_option maxRecDepth 20000 in
theorem dX6_twist_47 : decode cX6_twist 47 = .ok (.invokevirtual 121, 3) := by decide +kernel
set_option maxRecDepth 20000 in
theorem dX6_twist_50 : decode cX6_twist 50 = .ok (.l2i, 1) := by decide +kernel
set_option maxRecDepth 20000 in
theorem dX6_twist_51 : decode cX6_twist 51 = .ok (.ireturn, 1) := by decide +kernel
set_option maxRecDepth 20000 in
theorem dX6_twist_52 : decode cX6_twist 52 = .ok (.iload_n 2, 1) := by decide +kernel
set_option maxRecDepth 20000 in
theorem dX6_twist_53 : decode cX6_twist 53 = .ok (.iload_n 3, 1) := by decide +kernel
set_option maxRecDepth 20000 in
theorem dX6_twist_54 : decode cX6_twist 54 = .ok (.if_icmp .le 9, 3) := by decide +kernel
set_option maxRecDepth 20000 in
theorem dX6_twist_57 : decode cX6_twist 57 = .ok (.ldc_w 291, 3) := by decide +kernel
set_option maxRecDepth 20000 in
theorem dX6_twist_60 : decode cX6_twist 60 = .ok (.goto 23, 3) := by decide +kernel
set_option maxRecDepth 20000 in
theorem dX6_twist_63 : decode cX6_twist 63 = .ok (.aload_n 0, 1) := by decide +kernel
set_option maxRecDepth 20000 in
theorem dX6_twist_64 : decode cX6_twist 64 = .ok (.iconst 2, 1) := by decide +kernel
set_option maxRecDepth 20000 in
theorem dX6_twist_65 : decode cX6_twist 65 = .ok (.iload_n 1, 1) := by decide +kernel
set_option maxRecDepth 20000 in
theorem dX6_twist_66 : decode cX6_twist 66 = .ok (.iload_n 2, 1) := by decide +kernel
set_option maxRecDepth 20000 in
theorem dX6_twist_67 : decode cX6_twist 67 = .ok (.iconst 0, 1) := by decide +kernel
set_option maxRecDepth 20000 in
theorem dX6_twist_68 : decode cX6_twist 68 = .ok (.invokevirtual 121, 3) := by decide +kernel
set_option maxRecDepth 20000 in
theorem dX6_twist_71 : decode cX6_twist 71 = .ok (.aload_n 0, 1) := by decide +kernel
set_option maxRecDepth 20000 in
theorem dX6_twist_72 : decode cX6_twist 72 = .ok (.iconst 2, 1) := by decide +kernel
set_option maxRecDepth 20000 in
theorem dX6_twist_73 : decode cX6_twist 73 = .ok (.iload_n 1, 1) := by decide +kernel
set_option maxRecDepth 20000 in
theorem dX6_twist_74 : decode cX6_twist 74 = .ok (.iload_n 2, 1) := by decide +kernel
set_option maxRecDepth 20000 in
theorem dX6_twist_75 : decode cX6_twist 75 = .ok (.iconst 1, 1) := by decide +kernel
set_option maxRecDepth 20000 in
theorem dX6_twist_76 : decode cX6_twist 76 = .ok (.isub, 1) := by decide +kernel
set_option maxRecDepth 20000 in
theorem dX6_twist_77 : decode cX6_twist 77 = .ok (.iconst 0, 1) := by decide +kernel
set_option maxRecDepth 20000 in
theorem dX6_twist_78 : decode cX6_twist 78 = .ok (.invokevirtual 121, 3) := by decide +kernel
set_option maxRecDepth 20000 in
theorem dX6_twist_81 : decode cX6_twist 81 = .ok (.ldiv, 1) := by decide +kernel
set_option maxRecDepth 20000 in
theorem dX6_twist_82 : decode cX6_twist 82 = .ok (.l2i, 1) := by decide +kernel
set_option maxRecDepth 20000 in
theorem dX6_twist_83 : decode cX6_twist 83 = .ok (.ireturn, 1) := by decide +kernel
set_option maxRecDepth 20000 in
theorem dX6_chain_0 : decode cX6_chain 0 = .ok (.aload_n 0, 1) := by decide +kernel
set_option maxRecDepth 20000 in
theorem dX6_chain_1 : decode cX6_chain 1 = .ok (.iload_n 1, 1) := by decide +kernel
set_option maxRecDepth 20000 in
theorem dX6_chain_2 : decode cX6_chain 2 = .ok (.invokevirtual 266, 3) := by decide +kernel
set_option maxRecDepth 20000 in
theorem dX6_chain_5 : decode cX6_chain 5 = .ok (.ifCond .eq 29, 3) := by decide +kernel
set_option maxRecDepth 20000 in
theorem dX6_chain_8 : decode cX6_chain 8 = .ok (.aload_n 0, 1) := by decide +kernel
set_option maxRecDepth 20000 in
theorem dX6_chain_9 : decode cX6_chain 9 = .ok (.iconst 1, 1) := by decide +kernel
set_option maxRecDepth 20000 in
theorem dX6_chain_10 : decode cX6_chain 10 = .ok (.iload_n 2, 1) := by decide +kernel
set_option maxRecDepth 20000 in
theorem dX6_chain_11 : decode cX6_chain 11 = .ok (.invokevirtual 247, 3) := by decide +kernel
set_option maxRecDepth 20000 in
theorem dX6_chain_14 : decode cX6_chain 14 = .ok (.ifCond .eq 20, 3) := by decide +kernel
set_option maxRecDepth 20000 in
theorem dX6_chain_17 : decode cX6_chain 17 = .ok (.aload_n 0, 1) := by decide +kernel
set_option maxRecDepth 20000 in
theorem dX6_chain_18 : decode cX6_chain 18 = .ok (.getfield 7, 3) := by decide +kernel
set_option maxRecDepth 20000 in
theorem dX6_chain_21 : decode cX6_chain 21 = .ok (.bipush 45, 2) := by decide +kernel
set_option maxRecDepth 20000 in
theorem dX6_chain_23 : decode cX6_chain 23 = .ok (.bipush 6, 2) := by decide +kernel
set_option maxRecDepth 20000 in
theorem dX6_chain_25 : decode cX6_chain 25 = .ok (.iload_n 1, 1) := by decide +kernel
set_option maxRecDepth 20000 in
theorem dX6_chain_26 : decode cX6_chain 26 = .ok (.imul, 1) := by decide +kernel
set_option maxRecDepth 20000 in
theorem dX6_chain_27 : decode cX6_chain 27 = .ok (.iadd, 1) := by decide +kernel
set_option maxRecDepth 20000 in
theorem dX6_chain_28 : decode cX6_chain 28 = .ok (.iload_n 2, 1) := by decide +kernel
set_option maxRecDepth 20000 in
theorem dX6_chain_29 : decode cX6_chain 29 = .ok (.iadd, 1) := by decide +kernel
set_option maxRecDepth 20000 in
theorem dX6_chain_30 : decode cX6_chain 30 = .ok (.iaload, 1) := by decide +kernel
set_option maxRecDepth 20000 in
theorem dX6_chain_31 : decode cX6_chain 31 = .ok (.goto 5, 3) := by decide +kernel
set_option maxRecDepth 20000 in
theorem dX6_chain_34 : decode cX6_chain 34 = .ok (.ldc 218, 2) := by decide +kernel
set_option maxRecDepth 20000 in
theorem dX6_chain_36 : decode cX6_chain 36 = .ok (.ireturn, 1) := by decide +kernel
set_option maxRecDepth 20000 in
theorem dX6_endsAt_0 : decode cX6_endsAt 0 = .ok (.iconst 0, 1) := by decide +kernel
set_option maxRecDepth 20000 in
theorem dX6_endsAt_1 : decode cX6_endsAt 1 = .ok (.istore_n 3, 1) := by decide +kernel
set_option maxRecDepth 20000 in
theorem dX6_endsAt_2 : decode cX6_endsAt 2 = .ok (.iconst 0, 1) := by decide +kernel
set_option maxRecDepth 20000 in
theorem dX6_endsAt_3 : decode cX6_endsAt 3 = .ok (.istore 4, 2) := by decide +kernel
set_option maxRecDepth 20000 in
theorem dX6_endsAt_5 : decode cX6_endsAt 5 = .ok (.iload 4, 2) := by decide +kernel
set_option maxRecDepth 20000 in
theorem dX6_endsAt_7 : decode cX6_endsAt 7 = .ok (.aload_n 0, 1) := by decide +kernel
set_option maxRecDepth 20000 in
theorem dX6_endsAt_8 : decode cX6_endsAt 8 = .ok (.getfield 7, 3) := by decide +kernel
set_option maxRecDepth 20000 in
theorem dX6_endsAt_11 : decode cX6_endsAt 11 = .ok (.iconst 1, 1) := by decide +kernel
set_option maxRecDepth 20000 in
theorem dX6_endsAt_12 : decode cX6_endsAt 12 = .ok (.iaload, 1) := by decide +kernel
set_option maxRecDepth 20000 in
theorem dX6_endsAt_13 : decode cX6_endsAt 13 = .ok (.if_icmp .ge 35, 3) := by decide +kernel
set_option maxRecDepth 20000 in
theorem dX6_endsAt_16 : decode cX6_endsAt 16 = .ok (.iload_n 3, 1) := by decide +kernel
set_option maxRecDepth 20000 in
theorem dX6_endsAt_17 : decode cX6_endsAt 17 = .ok (.aload_n 0, 1) := by decide +kernel
set_option maxRecDepth 20000 in
theorem dX6_endsAt_18 : decode cX6_endsAt 18 = .ok (.getfield 7, 3) := by decide +kernel
set_option maxRecDepth 20000 in
theorem dX6_endsAt_21 : decode cX6_endsAt 21 = .ok (.bipush 45, 2) := by decide +kernel
set_option maxRecDepth 20000 in
theorem dX6_endsAt_23 : decode cX6_endsAt 23 = .ok (.bipush 6, 2) := by decide +kernel
set_option maxRecDepth 20000 in
theorem dX6_endsAt_25 : decode cX6_endsAt 25 = .ok (.iload_n 1, 1) := by decide +kernel
set_option maxRecDepth 20000 in
theorem dX6_endsAt_26 : decode cX6_endsAt 26 = .ok (.imul, 1) := by decide +kernel
set_option maxRecDepth 20000 in
theorem dX6_endsAt_27 : decode cX6_endsAt 27 = .ok (.iadd, 1) := by decide +kernel
set_option maxRecDepth 20000 in
theorem dX6_endsAt_28 : decode cX6_endsAt 28 = .ok (.iload 4, 2) := by decide +kernel
set_option maxRecDepth 20000 in
theorem dX6_endsAt_30 : decode cX6_endsAt 30 = .ok (.iadd, 1) := by decide +kernel
set_option maxRecDepth 20000 in
theorem dX6_endsAt_31 : decode cX6_endsAt 31 = .ok (.iaload, 1) := by decide +kernel
set_option maxRecDepth 20000 in
theorem dX6_endsAt_32 : decode cX6_endsAt 32 = .ok (.aload_n 0, 1) := by decide +kernel
set_option maxRecDepth 20000 in
theorem dX6_endsAt_33 : decode cX6_endsAt 33 = .ok (.iload_n 2, 1) := by decide +kernel
set_option maxRecDepth 20000 in
theorem dX6_endsAt_34 : decode cX6_endsAt 34 = .ok (.iload 4, 2) := by decide +kernel
set_option maxRecDepth 20000 in
theorem dX6_endsAt_36 : decode cX6_endsAt 36 = .ok (.invokevirtual 67, 3) := by decide +kernel
set_option maxRecDepth 20000 in
theorem dX6_endsAt_39 : decode cX6_endsAt 39 = .ok (.imul, 1) := by decide +kernel
set_option maxRecDepth 20000 in
theorem dX6_endsAt_40 : decode cX6_endsAt 40 = .ok (.iadd, 1) := by decide +kernel
set_option maxRecDepth 20000 in
theorem dX6_endsAt_41 : decode cX6_endsAt 41 = .ok (.istore_n 3, 1) := by decide +kernel
set_option maxRecDepth 20000 in
theorem dX6_endsAt_42 : decode cX6_endsAt 42 = .ok (.iinc 4 1, 3) := by decide +kernel
set_option maxRecDepth 20000 in
theorem dX6_endsAt_45 : decode cX6_endsAt 45 = .ok (.goto (-40), 3) := by decide +kernel
set_option maxRecDepth 20000 in
theorem dX6_endsAt_48 : decode cX6_endsAt 48 = .ok (.iload_n 3, 1) := by decide +kernel
set_option maxRecDepth 20000 in
theorem dX6_endsAt_49 : decode cX6_endsAt 49 = .ok (.ireturn, 1) := by decide +kernel
set_option maxRecDepth 20000 in
theorem dX6_ends_0 : decode cX6_ends 0 = .ok (.aload_n 0, 1) := by decide +kernel
set_option maxRecDepth 20000 in
theorem dX6_ends_1 : decode cX6_ends 1 = .ok (.iload_n 1, 1) := by decide +kernel
set_option maxRecDepth 20000 in
theorem dX6_ends_2 : decode cX6_ends 2 = .ok (.invokevirtual 266, 3) := by decide +kernel
set_option maxRecDepth 20000 in
theorem dX6_ends_5 : decode cX6_ends 5 = .ok (.ifCond .eq 21, 3) := by decide +kernel
set_option maxRecDepth 20000 in
theorem dX6_ends_8 : decode cX6_ends 8 = .ok (.aload_n 0, 1) := by decide +kernel
set_option maxRecDepth 20000 in
theorem dX6_ends_9 : decode cX6_ends 9 = .ok (.iconst 0, 1) := by decide +kernel
set_option maxRecDepth 20000 in
theorem dX6_ends_10 : decode cX6_ends 10 = .ok (.iload_n 2, 1) := by decide +kernel
set_option maxRecDepth 20000 in
theorem dX6_ends_11 : decode cX6_ends 11 = .ok (.invokevirtual 247, 3) := by decide +kernel
set_option maxRecDepth 20000 in
theorem dX6_ends_14 : decode cX6_ends 14 = .ok (.ifCond .eq 12, 3) := by decide +kernel
set_option maxRecDepth 20000 in
theorem dX6_ends_17 : decode cX6_ends 17 = .ok (.aload_n 0, 1) := by decide +kernel
set_option maxRecDepth 20000 in
theorem dX6_ends_18 : decode cX6_ends 18 = .ok (.iload_n 1, 1) := by decide +kernel
set_option maxRecDepth 20000 in
theorem dX6_ends_19 : decode cX6_ends 19 = .ok (.iload_n 2, 1) := by decide +kernel
set_option maxRecDepth 20000 in
theorem dX6_ends_20 : decode cX6_ends 20 = .ok (.invokevirtual 318, 3) := by decide +kernel
set_option maxRecDepth 20000 in
theorem dX6_ends_23 : decode cX6_ends 23 = .ok (.goto 5, 3) := by decide +kernel
set_option maxRecDepth 20000 in
theorem dX6_ends_26 : decode cX6_ends 26 = .ok (.ldc 218, 2) := by decide +kernel
set_option maxRecDepth 20000 in
theorem dX6_ends_28 : decode cX6_ends 28 = .ok (.ireturn, 1) := by decide +kernel
set_option maxRecDepth 20000 in
theorem dX6_isCycle_0 : decode cX6_isCycle 0 = .ok (.iconst 1, 1) := by decide +kernel
set_option maxRecDepth 20000 in
theorem dX6_isCycle_1 : decode cX6_isCycle 1 = .ok (.istore_n 2, 1) := by decide +kernel
set_option maxRecDepth 20000 in
theorem dX6_isCycle_2 : decode cX6_isCycle 2 = .ok (.iconst 0, 1) := by decide +kernel
set_option maxRecDepth 20000 in
theorem dX6_isCycle_3 : decode cX6_isCycle 3 = .ok (.istore_n 3, 1) := by decide +kernel
set_option maxRecDepth 20000 in
theorem dX6_isCycle_4 : decode cX6_isCycle 4 = .ok (.iload_n 3, 1) := by decide +kernel
set_option maxRecDepth 20000 in
theorem dX6_isCycle_5 : decode cX6_isCycle 5 = .ok (.aload_n 0, 1) := by decide +kernel
set_option maxRecDepth 20000 in
theorem dX6_isCycle_6 : decode cX6_isCycle 6 = .ok (.getfield 7, 3) := by decide +kernel
set_option maxRecDepth 20000 in
theorem dX6_isCycle_9 : decode cX6_isCycle 9 = .ok (.iconst 0, 1) := by decide +kernel
set_option maxRecDepth 20000 in
theorem dX6_isCycle_10 : decode cX6_isCycle 10 = .ok (.iaload, 1) := by decide +kernel
set_option maxRecDepth 20000 in
theorem dX6_isCycle_11 : decode cX6_isCycle 11 = .ok (.if_icmp .ge 28, 3) := by decide +kernel
set_option maxRecDepth 20000 in
theorem dX6_isCycle_14 : decode cX6_isCycle 14 = .ok (.iload_n 2, 1) := by decide +kernel
set_option maxRecDepth 20000 in
theorem dX6_isCycle_15 : decode cX6_isCycle 15 = .ok (.ifCond .eq 16, 3) := by decide +kernel
set_option maxRecDepth 20000 in
theorem dX6_isCycle_18 : decode cX6_isCycle 18 = .ok (.aload_n 0, 1) := by decide +kernel
set_option maxRecDepth 20000 in
theorem dX6_isCycle_19 : decode cX6_isCycle 19 = .ok (.iload_n 1, 1) := by decide +kernel
set_option maxRecDepth 20000 in
theorem dX6_isCycle_20 : decode cX6_isCycle 20 = .ok (.iload_n 3, 1) := by decide +kernel
set_option maxRecDepth 20000 in
theorem dX6_isCycle_21 : decode cX6_isCycle 21 = .ok (.invokevirtual 318, 3) := by decide +kernel
set_option maxRecDepth 20000 in
theorem dX6_isCycle_24 : decode cX6_isCycle 24 = .ok (.ifCond .ne 7, 3) := by decide +kernel
set_option maxRecDepth 20000 in
theorem dX6_isCycle_27 : decode cX6_isCycle 27 = .ok (.iconst 1, 1) := by decide +kernel
set_option maxRecDepth 20000 in
theorem dX6_isCycle_28 : decode cX6_isCycle 28 = .ok (.goto 4, 3) := by decide +kernel
set_option maxRecDepth 20000 in
theorem dX6_isCycle_31 : decode cX6_isCycle 31 = .ok (.iconst 0, 1) := by decide +kernel
set_option maxRecDepth 20000 in
theorem dX6_isCycle_32 : decode cX6_isCycle 32 = .ok (.istore_n 2, 1) := by decide +kernel
set_option maxRecDepth 20000 in
theorem dX6_isCycle_33 : decode cX6_isCycle 33 = .ok (.iinc 3 1, 3) := by decide +kernel
set_option maxRecDepth 20000 in
theorem dX6_isCycle_36 : decode cX6_isCycle 36 = .ok (.goto (-32), 3) := by decide +kernel
set_option maxRecDepth 20000 in
theorem dX6_isCycle_39 : decode cX6_isCycle 39 = .ok (.iload_n 2, 1) := by decide +kernel
set_option maxRecDepth 20000 in
theorem dX6_isCycle_40 : decode cX6_isCycle 40 = .ok (.ireturn, 1) := by decide +kernel
set_option maxRecDepth 20000 in
theorem dX6_order_0 : decode cX6_order 0 = .ok (.aload_n 0, 1) := by decide +kernel
set_option maxRecDepth 20000 in
theorem dX6_order_1 : decode cX6_order 1 = .ok (.iconst 2, 1) := by decide +kernel
set_option maxRecDepth 20000 in
theorem dX6_order_2 : decode cX6_order 2 = .ok (.invokevirtual 303, 3) := by decide +kernel
set_option maxRecDepth 20000 in
theorem dX6_order_5 : decode cX6_order 5 = .ok (.istore_n 2, 1) := by decide +kernel
set_option maxRecDepth 20000 in
theorem dX6_order_6 : decode cX6_order 6 = .ok (.aload_n 0, 1) := by decide +kernel
set_option maxRecDepth 20000 in
theorem dX6_order_7 : decode cX6_order 7 = .ok (.iconst 2, 1) := by decide +kernel
set_option maxRecDepth 20000 in
theorem dX6_order_8 : decode cX6_order 8 = .ok (.invokevirtual 124, 3) := by decide +kernel
set_option maxRecDepth 20000 in
theorem dX6_order_11 : decode cX6_order 11 = .ok (.bipush 16, 2) := by decide +kernel
set_option maxRecDepth 20000 in
theorem dX6_order_13 : decode cX6_order 13 = .ok (.ior, 1) := by decide +kernel
set_option maxRecDepth 20000 in
theorem dX6_order_14 : decode cX6_order 14 = .ok (.istore_n 3, 1) := by decide +kernel
set_option maxRecDepth 20000 in
theorem dX6_order_15 : decode cX6_order 15 = .ok (.aload_n 0, 1) := by decide +kernel
set_option maxRecDepth 20000 in
theorem dX6_order_16 : decode cX6_order 16 = .ok (.iconst 2, 1) := by decide +kernel
set_option maxRecDepth 20000 in
theorem dX6_order_17 : decode cX6_order 17 = .ok (.iload_n 3, 1) := by decide +kernel
set_option maxRecDepth 20000 in
theorem dX6_order_18 : decode cX6_order 18 = .ok (.iload_n 1, 1) := by decide +kernel
set_option maxRecDepth 20000 in
theorem dX6_order_19 : decode cX6_order 19 = .ok (.invokevirtual 127, 3) := by decide +kernel
set_option maxRecDepth 20000 in
theorem dX6_order_22 : decode cX6_order 22 = .ok (.iload_n 2, 1) := by decide +kernel
set_option maxRecDepth 20000 in
theorem dX6_order_23 : decode cX6_order 23 = .ok (.if_icmp .le 7, 3) := by decide +kernel
set_option maxRecDepth 20000 in
theorem dX6_order_26 : decode cX6_order 26 = .ok (.ldc_w 291, 3) := by decide +kernel
set_option maxRecDepth 20000 in
theorem dX6_order_29 : decode cX6_order 29 = .ok (.ireturn, 1) := by decide +kernel
set_option maxRecDepth 20000 in
theorem dX6_order_30 : decode cX6_order 30 = .ok (.aload_n 0, 1) := by decide +kernel
set_option maxRecDepth 20000 in
theorem dX6_order_31 : decode cX6_order 31 = .ok (.iconst 2, 1) := by decide +kernel
set_option maxRecDepth 20000 in
theorem dX6_order_32 : decode cX6_order 32 = .ok (.aload_n 0, 1) := by decide +kernel
set_option maxRecDepth 20000 in
theorem dX6_order_33 : decode cX6_order 33 = .ok (.iconst 2, 1) := by decide +kernel
set_option maxRecDepth 20000 in
theorem dX6_order_34 : decode cX6_order 34 = .ok (.invokevirtual 124, 3) := by decide +kernel
set_option maxRecDepth 20000 in
theorem dX6_order_37 : decode cX6_order 37 = .ok (.iload_n 2, 1) := by decide +kernel
set_option maxRecDepth 20000 in
theorem dX6_order_38 : decode cX6_order 38 = .ok (.iload_n 1, 1) := by decide +kernel
set_option maxRecDepth 20000 in
theorem dX6_order_39 : decode cX6_order 39 = .ok (.invokevirtual 121, 3) := by decide +kernel
set_option maxRecDepth 20000 in
theorem dX6_order_42 : decode cX6_order 42 = .ok (.aload_n 0, 1) := by decide +kernel
set_option maxRecDepth 20000 in
theorem dX6_order_43 : decode cX6_order 43 = .ok (.iconst 2, 1) := by decide +kernel
set_option maxRecDepth 20000 in
theorem dX6_order_44 : decode cX6_order 44 = .ok (.iload_n 3, 1) := by decide +kernel
set_option maxRecDepth 20000 in
theorem dX6_order_45 : decode cX6_order 45 = .ok (.iload_n 2, 1) := by decide +kernel
set_option maxRecDepth 20000 in
theorem dX6_order_46 : decode cX6_order 46 = .ok (.iload_n 1, 1) := by decide +kernel
set_option maxRecDepth 20000 in
theorem dX6_order_47 : decode cX6_order 47 = .ok (.invokevirtual 121, 3) := by decide +kernel
set_option maxRecDepth 20000 in
theorem dX6_order_50 : decode cX6_order 50 = .ok (.ldiv, 1) := by decide +kernel
set_option maxRecDepth 20000 in
theorem dX6_order_51 : decode cX6_order 51 = .ok (.l2i, 1) := by decide +kernel
set_option maxRecDepth 20000 in
theorem dX6_order_52 : decode cX6_order 52 = .ok (.ireturn, 1) := by decide +kernel
set_option maxRecDepth 20000 in
theorem dX6_whole_0 : decode cX6_whole 0 = .ok (.aload_n 0, 1) := by decide +kernel
set_option maxRecDepth 20000 in
theorem dX6_whole_1 : decode cX6_whole 1 = .ok (.invokevirtual 244, 3) := by decide +kernel
set_option maxRecDepth 20000 in
theorem dX6_whole_4 : decode cX6_whole 4 = .ok (.ifCond .ne 6, 3) := by decide +kernel
set_option maxRecDepth 20000 in
theorem dX6_whole_7 : decode cX6_whole 7 = .ok (.ldc 241, 2) := by decide +kernel
set_option maxRecDepth 20000 in
theorem dX6_whole_9 : decode cX6_whole 9 = .ok (.ireturn, 1) := by decide +kernel
set_option maxRecDepth 20000 in
theorem dX6_whole_10 : decode cX6_whole 10 = .ok (.iload_n 1, 1) := by decide +kernel
set_option maxRecDepth 20000 in
theorem dX6_whole_11 : decode cX6_whole 11 = .ok (.i2l, 1) := by decide +kernel
set_option maxRecDepth 20000 in
theorem dX6_whole_12 : decode cX6_whole 12 = .ok (.lconst 0, 1) := by decide +kernel
set_option maxRecDepth 20000 in
theorem dX6_whole_13 : decode cX6_whole 13 = .ok (.ldc2_w 242, 3) := by decide +kernel
set_option maxRecDepth 20000 in
theorem dX6_whole_16 : decode cX6_whole 16 = .ok (.invokestatic 150, 3) := by decide +kernel
set_option maxRecDepth 20000 in
theorem dX6_whole_19 : decode cX6_whole 19 = .ok (.ifCond .eq 15, 3) := by decide +kernel
set_option maxRecDepth 20000 in
theorem dX6_whole_22 : decode cX6_whole 22 = .ok (.iload_n 2, 1) := by decide +kernel
set_option maxRecDepth 20000 in
theorem dX6_whole_23 : decode cX6_whole 23 = .ok (.i2l, 1) := by decide +kernel
set_option maxRecDepth 20000 in
theorem dX6_whole_24 : decode cX6_whole 24 = .ok (.lconst 0, 1) := by decide +kernel
set_option maxRecDepth 20000 in
theorem dX6_whole_25 : decode cX6_whole 25 = .ok (.ldc2_w 242, 3) := by decide +kernel
set_option maxRecDepth 20000 in
theorem dX6_whole_28 : decode cX6_whole 28 = .ok (.invokestatic 150, 3) := by decide +kernel
set_option maxRecDepth 20000 in
theorem dX6_whole_31 : decode cX6_whole 31 = .ok (.ifCond .ne 6, 3) := by decide +kernel
set_option maxRecDepth 20000 in
theorem dX6_whole_34 : decode cX6_whole 34 = .ok (.ldc 218, 2) := by decide +kernel
set_option maxRecDepth 20000 in
theorem dX6_whole_36 : decode cX6_whole 36 = .ok (.ireturn, 1) := by decide +kernel
set_option maxRecDepth 20000 in
theorem dX6_whole_37 : decode cX6_whole 37 = .ok (.iload_n 2, 1) := by decide +kernel
set_option maxRecDepth 20000 in
theorem dX6_whole_38 : decode cX6_whole 38 = .ok (.ifCond .ne 17, 3) := by decide +kernel
set_option maxRecDepth 20000 in
theorem dX6_whole_41 : decode cX6_whole 41 = .ok (.aload_n 0, 1) := by decide +kernel
set_option maxRecDepth 20000 in
theorem dX6_whole_42 : decode cX6_whole 42 = .ok (.iload_n 1, 1) := by decide +kernel
set_option maxRecDepth 20000 in
theorem dX6_whole_43 : decode cX6_whole 43 = .ok (.invokevirtual 321, 3) := by decide +kernel
set_option maxRecDepth 20000 in
theorem dX6_whole_46 : decode cX6_whole 46 = .ok (.ifCond .eq 7, 3) := by decide +kernel
set_option maxRecDepth 20000 in
theorem dX6_whole_49 : decode cX6_whole 49 = .ok (.iconst 1, 1) := by decide +kernel
set_option maxRecDepth 20000 in
theorem dX6_whole_50 : decode cX6_whole 50 = .ok (.goto 4, 3) := by decide +kernel
set_option maxRecDepth 20000 in
theorem dX6_whole_53 : decode cX6_whole 53 = .ok (.iconst 0, 1) := by decide +kernel
set_option maxRecDepth 20000 in
theorem dX6_whole_54 : decode cX6_whole 54 = .ok (.ireturn, 1) := by decide +kernel
set_option maxRecDepth 20000 in
theorem dX6_whole_55 : decode cX6_whole 55 = .ok (.iload_n 2, 1) := by decide +kernel
set_option maxRecDepth 20000 in
theorem dX6_whole_56 : decode cX6_whole 56 = .ok (.iconst 2, 1) := by decide +kernel
set_option maxRecDepth 20000 in
theorem dX6_whole_57 : decode cX6_whole 57 = .ok (.if_icmp .ne 11, 3) := by decide +kernel
set_option maxRecDepth 20000 in
theorem dX6_whole_60 : decode cX6_whole 60 = .ok (.aload_n 0, 1) := by decide +kernel
set_option maxRecDepth 20000 in
theorem dX6_whole_61 : decode cX6_whole 61 = .ok (.iload_n 1, 1) := by decide +kernel
set_option maxRecDepth 20000 in
theorem dX6_whole_62 : decode cX6_whole 62 = .ok (.invokevirtual 324, 3) := by decide +kernel
set_option maxRecDepth 20000 in
theorem dX6_whole_65 : decode cX6_whole 65 = .ok (.goto 17, 3) := by decide +kernel
set_option maxRecDepth 20000 in
theorem dX6_whole_68 : decode cX6_whole 68 = .ok (.aload_n 0, 1) := by decide +kernel
set_option maxRecDepth 20000 in
theorem dX6_whole_69 : decode cX6_whole 69 = .ok (.iload_n 1, 1) := by decide +kernel
set_option maxRecDepth 20000 in
theorem dX6_whole_70 : decode cX6_whole 70 = .ok (.invokevirtual 324, 3) := by decide +kernel
set_option maxRecDepth 20000 in
theorem dX6_whole_73 : decode cX6_whole 73 = .ok (.iconst 1, 1) := by decide +kernel
set_option maxRecDepth 20000 in
theorem dX6_whole_74 : decode cX6_whole 74 = .ok (.if_icmp .ne 7, 3) := by decide +kernel
set_option maxRecDepth 20000 in
theorem dX6_whole_77 : decode cX6_whole 77 = .ok (.iconst 1, 1) := by decide +kernel
set_option maxRecDepth 20000 in
theorem dX6_whole_78 : decode cX6_whole 78 = .ok (.goto 4, 3) := by decide +kernel
set_option maxRecDepth 20000 in
theorem dX6_whole_81 : decode cX6_whole 81 = .ok (.iconst 0, 1) := by decide +kernel
set_option maxRecDepth 20000 in
theorem dX6_whole_82 : decode cX6_whole 82 = .ok (.ireturn, 1) := by decide +kernel
set_option maxRecDepth 20000 in
theorem dX6_independent_0 : decode cX6_independent 0 = .ok (.iconst 0, 1) := by decide +kernel
set_option maxRecDepth 20000 in
theorem dX6_independent_1 : decode cX6_independent 1 = .ok (.istore_n 2, 1) := by decide +kernel
set_option maxRecDepth 20000 in
theorem dX6_independent_2 : decode cX6_independent 2 = .ok (.iload_n 1, 1) := by decide +kernel
set_option maxRecDepth 20000 in
theorem dX6_independent_3 : decode cX6_independent 3 = .ok (.iconst 1, 1) := by decide +kernel
set_option maxRecDepth 20000 in
theorem dX6_independent_4 : decode cX6_independent 4 = .ok (.if_icmp .ne 12, 3) := by decide +kernel
set_option maxRecDepth 20000 in
theorem dX6_independent_7 : decode cX6_independent 7 = .ok (.aload_n 0, 1) := by decide +kernel
set_option maxRecDepth 20000 in
theorem dX6_independent_8 : decode cX6_independent 8 = .ok (.getfield 7, 3) := by decide +kernel
set_option maxRecDepth 20000 in
theorem dX6_independent_11 : decode cX6_independent 11 = .ok (.iconst 0, 1) := by decide +kernel
set_option maxRecDepth 20000 in
theorem dX6_independent_12 : decode cX6_independent 12 = .ok (.iaload, 1) := by decide +kernel
set_option maxRecDepth 20000 in
theorem dX6_independent_13 : decode cX6_independent 13 = .ok (.goto 9, 3) := by decide +kernel
set_option maxRecDepth 20000 in
theorem dX6_independent_16 : decode cX6_independent 16 = .ok (.aload_n 0, 1) := by decide +kernel
set_option maxRecDepth 20000 in
theorem dX6_independent_17 : decode cX6_independent 17 = .ok (.getfield 7, 3) := by decide +kernel
set_option maxRecDepth 20000 in
theorem dX6_independent_20 : decode cX6_independent 20 = .ok (.iconst 2, 1) := by decide +kernel
set_option maxRecDepth 20000 in
theorem dX6_independent_21 : decode cX6_independent 21 = .ok (.iaload, 1) := by decide +kernel
set_option maxRecDepth 20000 in
theorem dX6_independent_22 : decode cX6_independent 22 = .ok (.istore_n 3, 1) := by decide +kernel
set_option maxRecDepth 20000 in
theorem dX6_independent_23 : decode cX6_independent 23 = .ok (.iconst 0, 1) := by decide +kernel
set_option maxRecDepth 20000 in
theorem dX6_independent_24 : decode cX6_independent 24 = .ok (.istore 4, 2) := by decide +kernel
set_option maxRecDepth 20000 in
theorem dX6_independent_26 : decode cX6_independent 26 = .ok (.iload 4, 2) := by decide +kernel
set_option maxRecDepth 20000 in
theorem dX6_independent_28 : decode cX6_independent 28 = .ok (.iload_n 3, 1) := by decide +kernel
set_option maxRecDepth 20000 in
theorem dX6_independent_29 : decode cX6_independent 29 = .ok (.if_icmp .ge 79, 3) := by decide +kernel
set_option maxRecDepth 20000 in
theorem dX6_independent_32 : decode cX6_independent 32 = .ok (.iload_n 2, 1) := by decide +kernel
set_option maxRecDepth 20000 in
theorem dX6_independent_33 : decode cX6_independent 33 = .ok (.iconst 1, 1) := by decide +kernel
set_option maxRecDepth 20000 in
theorem dX6_independent_34 : decode cX6_independent 34 = .ok (.iload 4, 2) := by decide +kernel
set_option maxRecDepth 20000 in
theorem dX6_independent_36 : decode cX6_independent 36 = .ok (.ishl, 1) := by decide +kernel
set_option maxRecDepth 20000 in
theorem dX6_independent_37 : decode cX6_independent 37 = .ok (.ior, 1) := by decide +kernel
set_option maxRecDepth 20000 in
theorem dX6_independent_38 : decode cX6_independent 38 = .ok (.istore 5, 2) := by decide +kernel
set_option maxRecDepth 20000 in
theorem dX6_independent_40 : decode cX6_independent 40 = .ok (.iload_n 1, 1) := by decide +kernel
set_option maxRecDepth 20000 in
theorem dX6_independent_41 : decode cX6_independent 41 = .ok (.iconst 2, 1) := by decide +kernel
set_option maxRecDepth 20000 in
theorem dX6_independent_42 : decode cX6_independent 42 = .ok (.if_icmp .ne 27, 3) := by decide +kernel
set_option maxRecDepth 20000 in
theorem dX6_independent_45 : decode cX6_independent 45 = .ok (.aload_n 0, 1) := by decide +kernel
set_option maxRecDepth 20000 in
theorem dX6_independent_46 : decode cX6_independent 46 = .ok (.iconst 2, 1) := by decide +kernel
set_option maxRecDepth 20000 in
theorem dX6_independent_47 : decode cX6_independent 47 = .ok (.iload 5, 2) := by decide +kernel
set_option maxRecDepth 20000 in
theorem dX6_independent_49 : decode cX6_independent 49 = .ok (.iconst 0, 1) := by decide +kernel
set_option maxRecDepth 20000 in
theorem dX6_independent_50 : decode cX6_independent 50 = .ok (.invokevirtual 127, 3) := by decide +kernel
set_option maxRecDepth 20000 in
theorem dX6_independent_53 : decode cX6_independent 53 = .ok (.iload 5, 2) := by decide +kernel
set_option maxRecDepth 20000 in
theorem dX6_independent_55 : decode cX6_independent 55 = .ok (.invokestatic 99, 3) := by decide +kernel
set_option maxRecDepth 20000 in
theorem dX6_independent_58 : decode cX6_independent 58 = .ok (.if_icmp .ne 7, 3) := by decide +kernel
set_option maxRecDepth 20000 in
theorem dX6_independent_61 : decode cX6_independent 61 = .ok (.iconst 1, 1) := by decide +kernel
set_option maxRecDepth 20000 in
theorem dX6_independent_62 : decode cX6_independent 62 = .ok (.goto 26, 3) := by decide +kernel
set_option maxRecDepth 20000 in
theorem dX6_independent_65 : decode cX6_independent 65 = .ok (.iconst 0, 1) := by decide +kernel
set_option maxRecDepth 20000 in
theorem dX6_independent_66 : decode cX6_independent 66 = .ok (.goto 22, 3) := by decide +kernel
set_option maxRecDepth 20000 in
theorem dX6_independent_69 : decode cX6_independent 69 = .ok (.aload_n 0, 1) := by decide +kernel
set_option maxRecDepth 20000 in
theorem dX6_independent_70 : decode cX6_independent 70 = .ok (.iload 5, 2) := by decide +kernel
set_option maxRecDepth 20000 in
theorem dX6_independent_72 : decode cX6_independent 72 = .ok (.invokevirtual 327, 3) := by decide +kernel
set_option maxRecDepth 20000 in
theorem dX6_independent_75 : decode cX6_independent 75 = .ok (.iload 5, 2) := by decide +kernel
set_option maxRecDepth 20000 in
theorem dX6_independent_77 : decode cX6_independent 77 = .ok (.invokestatic 99, 3) := by decide +kernel
set_option maxRecDepth 20000 in
theorem dX6_independent_80 : decode cX6_independent 80 = .ok (.if_icmp .ne 7, 3) := by decide +kernel
set_option maxRecDepth 20000 in
theorem dX6_independent_83 : decode cX6_independent 83 = .ok (.iconst 1, 1) := by decide +kernel
set_option maxRecDepth 20000 in
theorem dX6_independent_84 : decode cX6_independent 84 = .ok (.goto 4, 3) := by decide +kernel
set_option maxRecDepth 20000 in
theorem dX6_independent_87 : decode cX6_independent 87 = .ok (.iconst 0, 1) := by decide +kernel
set_option maxRecDepth 20000 in
theorem dX6_independent_88 : decode cX6_independent 88 = .ok (.istore 6, 2) := by decide +kernel
set_option maxRecDepth 20000 in
theorem dX6_independent_90 : decode cX6_independent 90 = .ok (.iload 6, 2) := by decide +kernel
set_option maxRecDepth 20000 in
theorem dX6_independent_92 : decode cX6_independent 92 = .ok (.ifCond .eq 8, 3) := by decide +kernel
set_option maxRecDepth 20000 in
theorem dX6_independent_95 : decode cX6_independent 95 = .ok (.iload 5, 2) := by decide +kernel
set_option maxRecDepth 20000 in
theorem dX6_independent_97 : decode cX6_independent 97 = .ok (.goto 4, 3) := by decide +kernel
set_option maxRecDepth 20000 in
theorem dX6_independent_100 : decode cX6_independent 100 = .ok (.iload_n 2, 1) := by decide +kernel
set_option maxRecDepth 20000 in
theorem dX6_independent_101 : decode cX6_independent 101 = .ok (.istore_n 2, 1) := by decide +kernel
set_option maxRecDepth 20000 in
theorem dX6_independent_102 : decode cX6_independent 102 = .ok (.iinc 4 1, 3) := by decide +kernel
set_option maxRecDepth 20000 in
theorem dX6_independent_105 : decode cX6_independent 105 = .ok (.goto (-79), 3) := by decide +kernel
set_option maxRecDepth 20000 in
theorem dX6_independent_108 : decode cX6_independent 108 = .ok (.iload_n 2, 1) := by decide +kernel
set_option maxRecDepth 20000 in
theorem dX6_independent_109 : decode cX6_independent 109 = .ok (.ireturn, 1) := by decide +kernel
set_option maxRecDepth 20000 in
theorem dX6_rankOfRows_0 : decode cX6_rankOfRows 0 = .ok (.iconst 0, 1) := by decide +kernel
set_option maxRecDepth 20000 in
theorem dX6_rankOfRows_1 : decode cX6_rankOfRows 1 = .ok (.istore_n 2, 1) := by decide +kernel
set_option maxRecDepth 20000 in
theorem dX6_rankOfRows_2 : decode cX6_rankOfRows 2 = .ok (.iload_n 1, 1) := by decide +kernel
set_option maxRecDepth 20000 in
theorem dX6_rankOfRows_3 : decode cX6_rankOfRows 3 = .ok (.istore_n 3, 1) := by decide +kernel
set_option maxRecDepth 20000 in
theorem dX6_rankOfRows_4 : decode cX6_rankOfRows 4 = .ok (.iload_n 3, 1) := by decide +kernel
set_option maxRecDepth 20000 in
theorem dX6_rankOfRows_5 : decode cX6_rankOfRows 5 = .ok (.ifCond .le 73, 3) := by decide +kernel
set_option maxRecDepth 20000 in
theorem dX6_rankOfRows_8 : decode cX6_rankOfRows 8 = .ok (.iconst 0, 1) := by decide +kernel
set_option maxRecDepth 20000 in
theorem dX6_rankOfRows_9 : decode cX6_rankOfRows 9 = .ok (.istore 4, 2) := by decide +kernel
set_option maxRecDepth 20000 in
theorem dX6_rankOfRows_11 : decode cX6_rankOfRows 11 = .ok (.iload 4, 2) := by decide +kernel
set_option maxRecDepth 20000 in
theorem dX6_rankOfRows_13 : decode cX6_rankOfRows 13 = .ok (.iconst 1, 1) := by decide +kernel
set_option maxRecDepth 20000 in
theorem dX6_rankOfRows_14 : decode cX6_rankOfRows 14 = .ok (.aload_n 0, 1) := by decide +kernel
set_option maxRecDepth 20000 in
theorem dX6_rankOfRows_15 : decode cX6_rankOfRows 15 = .ok (.getfield 7, 3) := by decide +kernel
set_option maxRecDepth 20000 in
theorem dX6_rankOfRows_18 : decode cX6_rankOfRows 18 = .ok (.iconst 1, 1) := by decide +kernel
set_option maxRecDepth 20000 in
theorem dX6_rankOfRows_19 : decode cX6_rankOfRows 19 = .ok (.iaload, 1) := by decide +kernel
set_option maxRecDepth 20000 in
theorem dX6_rankOfRows_20 : decode cX6_rankOfRows 20 = .ok (.ishl, 1) := by decide +kernel
set_option maxRecDepth 20000 in
theorem dX6_rankOfRows_21 : decode cX6_rankOfRows 21 = .ok (.if_icmp .ge 48, 3) := by decide +kernel
set_option maxRecDepth 20000 in
theorem dX6_rankOfRows_24 : decode cX6_rankOfRows 24 = .ok (.iload 4, 2) := by decide +kernel
set_option maxRecDepth 20000 in
theorem dX6_rankOfRows_26 : decode cX6_rankOfRows 26 = .ok (.invokestatic 99, 3) := by decide +kernel
set_option maxRecDepth 20000 in
theorem dX6_rankOfRows_29 : decode cX6_rankOfRows 29 = .ok (.iload_n 3, 1) := by decide +kernel
set_option maxRecDepth 20000 in
theorem dX6_rankOfRows_30 : decode cX6_rankOfRows 30 = .ok (.invokestatic 99, 3) := by decide +kernel
set_option maxRecDepth 20000 in
theorem dX6_rankOfRows_33 : decode cX6_rankOfRows 33 = .ok (.if_icmp .ne 30, 3) := by decide +kernel
set_option maxRecDepth 20000 in
theorem dX6_rankOfRows_36 : decode cX6_rankOfRows 36 = .ok (.iload_n 3, 1) := by decide +kernel
set_option maxRecDepth 20000 in
theorem dX6_rankOfRows_37 : decode cX6_rankOfRows 37 = .ok (.invokestatic 99, 3) := by decide +kernel
set_option maxRecDepth 20000 in
theorem dX6_rankOfRows_40 : decode cX6_rankOfRows 40 = .ok (.iload_n 2, 1) := by decide +kernel
set_option maxRecDepth 20000 in
theorem dX6_rankOfRows_41 : decode cX6_rankOfRows 41 = .ok (.if_icmp .le 22, 3) := by decide +kernel
set_option maxRecDepth 20000 in
theorem dX6_rankOfRows_44 : decode cX6_rankOfRows 44 = .ok (.aload_n 0, 1) := by decide +kernel
set_option maxRecDepth 20000 in
theorem dX6_rankOfRows_45 : decode cX6_rankOfRows 45 = .ok (.iconst 1, 1) := by decide +kernel
set_option maxRecDepth 20000 in
theorem dX6_rankOfRows_46 : decode cX6_rankOfRows 46 = .ok (.iload_n 3, 1) := by decide +kernel
set_option maxRecDepth 20000 in
theorem dX6_rankOfRows_47 : decode cX6_rankOfRows 47 = .ok (.iload 4, 2) := by decide +kernel
set_option maxRecDepth 20000 in
theorem dX6_rankOfRows_49 : decode cX6_rankOfRows 49 = .ok (.iconst 0, 1) := by decide +kernel
set_option maxRecDepth 20000 in
theorem dX6_rankOfRows_50 : decode cX6_rankOfRows 50 = .ok (.invokevirtual 113, 3) := by decide +kernel
set_option maxRecDepth 20000 in
theorem dX6_rankOfRows_53 : decode cX6_rankOfRows 53 = .ok (.lconst 0, 1) := by decide +kernel
set_option maxRecDepth 20000 in
theorem dX6_rankOfRows_54 : decode cX6_rankOfRows 54 = .ok (.lcmp, 1) := by decide +kernel
set_option maxRecDepth 20000 in
theorem dX6_rankOfRows_55 : decode cX6_rankOfRows 55 = .ok (.ifCond .eq 8, 3) := by decide +kernel
set_option maxRecDepth 20000 in
theorem dX6_rankOfRows_58 : decode cX6_rankOfRows 58 = .ok (.iload_n 3, 1) := by decide +kernel
set_option maxRecDepth 20000 in
theorem dX6_rankOfRows_59 : decode cX6_rankOfRows 59 = .ok (.invokestatic 99, 3) := by decide +kernel
set_option maxRecDepth 20000 in
theorem dX6_rankOfRows_62 : decode cX6_rankOfRows 62 = .ok (.istore_n 2, 1) := by decide +kernel
set_option maxRecDepth 20000 in
theorem dX6_rankOfRows_63 : decode cX6_rankOfRows 63 = .ok (.iinc 4 1, 3) := by decide +kernel
set_option maxRecDepth 20000 in
theorem dX6_rankOfRows_66 : decode cX6_rankOfRows 66 = .ok (.goto (-55), 3) := by decide +kernel
set_option maxRecDepth 20000 in
theorem dX6_rankOfRows_69 : decode cX6_rankOfRows 69 = .ok (.iload_n 3, 1) := by decide +kernel
set_option maxRecDepth 20000 in
theorem dX6_rankOfRows_70 : decode cX6_rankOfRows 70 = .ok (.iconst 1, 1) := by decide +kernel
set_option maxRecDepth 20000 in
theorem dX6_rankOfRows_71 : decode cX6_rankOfRows 71 = .ok (.isub, 1) := by decide +kernel
set_option maxRecDepth 20000 in
theorem dX6_rankOfRows_72 : decode cX6_rankOfRows 72 = .ok (.iload_n 1, 1) := by decide +kernel
set_option maxRecDepth 20000 in
theorem dX6_rankOfRows_73 : decode cX6_rankOfRows 73 = .ok (.iand, 1) := by decide +kernel
set_option maxRecDepth 20000 in
theorem dX6_rankOfRows_74 : decode cX6_rankOfRows 74 = .ok (.istore_n 3, 1) := by decide +kernel
set_option maxRecDepth 20000 in
theorem dX6_rankOfRows_75 : decode cX6_rankOfRows 75 = .ok (.goto (-71), 3) := by decide +kernel
set_option maxRecDepth 20000 in
theorem dX6_rankOfRows_78 : decode cX6_rankOfRows 78 = .ok (.iload_n 2, 1) := by decide +kernel
set_option maxRecDepth 20000 in
theorem dX6_rankOfRows_79 : decode cX6_rankOfRows 79 = .ok (.ireturn, 1) := by decide +kernel
set_option maxRecDepth 20000 in
theorem dX6_product_0 : decode cX6_product 0 = .ok (.iload_n 1, 1) := by decide +kernel
set_option maxRecDepth 20000 in
theorem dX6_product_1 : decode cX6_product 1 = .ok (.iconst 1, 1) := by decide +kernel
set_option maxRecDepth 20000 in
theorem dX6_product_2 : decode cX6_product 2 = .ok (.if_icmp .ne 12, 3) := by decide +kernel
set_option maxRecDepth 20000 in
theorem dX6_product_5 : decode cX6_product 5 = .ok (.aload_n 0, 1) := by decide +kernel
set_option maxRecDepth 20000 in
theorem dX6_product_6 : decode cX6_product 6 = .ok (.iconst 0, 1) := by decide +kernel
set_option maxRecDepth 20000 in
theorem dX6_product_7 : decode cX6_product 7 = .ok (.iload_n 2, 1) := by decide +kernel
set_option maxRecDepth 20000 in
theorem dX6_product_8 : decode cX6_product 8 = .ok (.iload_n 3, 1) := by decide +kernel
set_option maxRecDepth 20000 in
theorem dX6_product_9 : decode cX6_product 9 = .ok (.invokevirtual 300, 3) := by decide +kernel
set_option maxRecDepth 20000 in
theorem dX6_product_12 : decode cX6_product 12 = .ok (.i2l, 1) := by decide +kernel
set_option maxRecDepth 20000 in
theorem dX6_product_13 : decode cX6_product 13 = .ok (.lreturn, 1) := by decide +kernel
set_option maxRecDepth 20000 in
theorem dX6_product_14 : decode cX6_product 14 = .ok (.lconst 0, 1) := by decide +kernel
set_option maxRecDepth 20000 in
theorem dX6_product_15 : decode cX6_product 15 = .ok (.lstore 4, 2) := by decide +kernel
set_option maxRecDepth 20000 in
theorem dX6_product_17 : decode cX6_product 17 = .ok (.iconst 0, 1) := by decide +kernel
set_option maxRecDepth 20000 in
theorem dX6_product_18 : decode cX6_product 18 = .ok (.istore 6, 2) := by decide +kernel
set_option maxRecDepth 20000 in
theorem dX6_product_20 : decode cX6_product 20 = .ok (.iload 6, 2) := by decide +kernel
set_option maxRecDepth 20000 in
theorem dX6_product_22 : decode cX6_product 22 = .ok (.aload_n 0, 1) := by decide +kernel
set_option maxRecDepth 20000 in
theorem dX6_product_23 : decode cX6_product 23 = .ok (.getfield 7, 3) := by decide +kernel
set_option maxRecDepth 20000 in
theorem dX6_product_26 : decode cX6_product 26 = .ok (.iconst 1, 1) := by decide +kernel
set_option maxRecDepth 20000 in
theorem dX6_product_27 : decode cX6_product 27 = .ok (.iaload, 1) := by decide +kernel
set_option maxRecDepth 20000 in
theorem dX6_product_28 : decode cX6_product 28 = .ok (.if_icmp .ge 46, 3) := by decide +kernel
set_option maxRecDepth 20000 in
theorem dX6_product_31 : decode cX6_product 31 = .ok (.lload 4, 2) := by decide +kernel
set_option maxRecDepth 20000 in
theorem dX6_product_33 : decode cX6_product 33 = .ok (.aload_n 0, 1) := by decide +kernel
set_option maxRecDepth 20000 in
theorem dX6_product_34 : decode cX6_product 34 = .ok (.iload 6, 2) := by decide +kernel
set_option maxRecDepth 20000 in
theorem dX6_product_36 : decode cX6_product 36 = .ok (.iload_n 2, 1) := by decide +kernel
set_option maxRecDepth 20000 in
theorem dX6_product_37 : decode cX6_product 37 = .ok (.invokevirtual 71, 3) := by decide +kernel
set_option maxRecDepth 20000 in
theorem dX6_product_40 : decode cX6_product 40 = .ok (.i2l, 1) := by decide +kernel
set_option maxRecDepth 20000 in
theorem dX6_product_41 : decode cX6_product 41 = .ok (.aload_n 0, 1) := by decide +kernel
set_option maxRecDepth 20000 in
theorem dX6_product_42 : decode cX6_product 42 = .ok (.iload 6, 2) := by decide +kernel
set_option maxRecDepth 20000 in
theorem dX6_product_44 : decode cX6_product 44 = .ok (.iload_n 3, 1) := by decide +kernel
set_option maxRecDepth 20000 in
theorem dX6_product_45 : decode cX6_product 45 = .ok (.invokevirtual 71, 3) := by decide +kernel
set_option maxRecDepth 20000 in
theorem dX6_product_48 : decode cX6_product 48 = .ok (.i2l, 1) := by decide +kernel
set_option maxRecDepth 20000 in
theorem dX6_product_49 : decode cX6_product 49 = .ok (.lmul, 1) := by decide +kernel
set_option maxRecDepth 20000 in
theorem dX6_product_50 : decode cX6_product 50 = .ok (.bipush 6, 2) := by decide +kernel
set_option maxRecDepth 20000 in
theorem dX6_product_52 : decode cX6_product 52 = .ok (.aload_n 0, 1) := by decide +kernel
set_option maxRecDepth 20000 in
theorem dX6_product_53 : decode cX6_product 53 = .ok (.getfield 7, 3) := by decide +kernel
set_option maxRecDepth 20000 in
theorem dX6_product_56 : decode cX6_product 56 = .ok (.iconst 1, 1) := by decide +kernel
set_option maxRecDepth 20000 in
theorem dX6_product_57 : decode cX6_product 57 = .ok (.iload 6, 2) := by decide +kernel
set_option maxRecDepth 20000 in
theorem dX6_product_59 : decode cX6_product 59 = .ok (.invokestatic 81, 3) := by decide +kernel
set_option maxRecDepth 20000 in
theorem dX6_product_62 : decode cX6_product 62 = .ok (.idiv, 1) := by decide +kernel
set_option maxRecDepth 20000 in
theorem dX6_product_63 : decode cX6_product 63 = .ok (.i2l, 1) := by decide +kernel
set_option maxRecDepth 20000 in
theorem dX6_product_64 : decode cX6_product 64 = .ok (.lmul, 1) := by decide +kernel
set_option maxRecDepth 20000 in
theorem dX6_product_65 : decode cX6_product 65 = .ok (.ladd, 1) := by decide +kernel
set_option maxRecDepth 20000 in
theorem dX6_product_66 : decode cX6_product 66 = .ok (.lstore 4, 2) := by decide +kernel
set_option maxRecDepth 20000 in
theorem dX6_product_68 : decode cX6_product 68 = .ok (.iinc 6 1, 3) := by decide +kernel
set_option maxRecDepth 20000 in
theorem dX6_product_71 : decode cX6_product 71 = .ok (.goto (-51), 3) := by decide +kernel
set_option maxRecDepth 20000 in
theorem dX6_product_74 : decode cX6_product 74 = .ok (.lload 4, 2) := by decide +kernel
set_option maxRecDepth 20000 in
theorem dX6_product_76 : decode cX6_product 76 = .ok (.lreturn, 1) := by decide +kernel
set_option maxRecDepth 20000 in
theorem dX6_against_0 : decode cX6_against 0 = .ok (.iload_n 1, 1) := by decide +kernel
set_option maxRecDepth 20000 in
theorem dX6_against_1 : decode cX6_against 1 = .ok (.iconst 1, 1) := by decide +kernel
set_option maxRecDepth 20000 in
theorem dX6_against_2 : decode cX6_against 2 = .ok (.if_icmp .ne 11, 3) := by decide +kernel
set_option maxRecDepth 20000 in
theorem dX6_against_5 : decode cX6_against 5 = .ok (.aload_n 0, 1) := by decide +kernel
set_option maxRecDepth 20000 in
theorem dX6_against_6 : decode cX6_against 6 = .ok (.iload_n 3, 1) := by decide +kernel
set_option maxRecDepth 20000 in
theorem dX6_against_7 : decode cX6_against 7 = .ok (.iload_n 2, 1) := by decide +kernel
set_option maxRecDepth 20000 in
theorem dX6_against_8 : decode cX6_against 8 = .ok (.invokevirtual 318, 3) := by decide +kernel
set_option maxRecDepth 20000 in
theorem dX6_against_11 : decode cX6_against 11 = .ok (.i2l, 1) := by decide +kernel
set_option maxRecDepth 20000 in
theorem dX6_against_12 : decode cX6_against 12 = .ok (.lreturn, 1) := by decide +kernel
set_option maxRecDepth 20000 in
theorem dX6_against_13 : decode cX6_against 13 = .ok (.lconst 0, 1) := by decide +kernel
set_option maxRecDepth 20000 in
theorem dX6_against_14 : decode cX6_against 14 = .ok (.lstore 4, 2) := by decide +kernel
set_option maxRecDepth 20000 in
theorem dX6_against_16 : decode cX6_against 16 = .ok (.iconst 0, 1) := by decide +kernel
set_option maxRecDepth 20000 in
theorem dX6_against_17 : decode cX6_against 17 = .ok (.istore 6, 2) := by decide +kernel
set_option maxRecDepth 20000 in
theorem dX6_against_19 : decode cX6_against 19 = .ok (.iload 6, 2) := by decide +kernel
set_option maxRecDepth 20000 in
theorem dX6_against_21 : decode cX6_against 21 = .ok (.aload_n 0, 1) := by decide +kernel
set_option maxRecDepth 20000 in
theorem dX6_against_22 : decode cX6_against 22 = .ok (.getfield 7, 3) := by decide +kernel
set_option maxRecDepth 20000 in
theorem dX6_against_25 : decode cX6_against 25 = .ok (.iconst 1, 1) := by decide +kernel
set_option maxRecDepth 20000 in
theorem dX6_against_26 : decode cX6_against 26 = .ok (.iaload, 1) := by decide +kernel
set_option maxRecDepth 20000 in
theorem dX6_against_27 : decode cX6_against 27 = .ok (.if_icmp .ge 54, 3) := by decide +kernel
set_option maxRecDepth 20000 in
theorem dX6_against_30 : decode cX6_against 30 = .ok (.lload 4, 2) := by decide +kernel
set_option maxRecDepth 20000 in
theorem dX6_against_32 : decode cX6_against 32 = .ok (.aload_n 0, 1) := by decide +kernel
set_option maxRecDepth 20000 in
theorem dX6_against_33 : decode cX6_against 33 = .ok (.iload 6, 2) := by decide +kernel
set_option maxRecDepth 20000 in
theorem dX6_against_35 : decode cX6_against 35 = .ok (.iload_n 2, 1) := by decide +kernel
set_option maxRecDepth 20000 in
theorem dX6_against_36 : decode cX6_against 36 = .ok (.invokevirtual 71, 3) := by decide +kernel
set_option maxRecDepth 20000 in
theorem dX6_against_39 : decode cX6_against 39 = .ok (.i2l, 1) := by decide +kernel
set_option maxRecDepth 20000 in
theorem dX6_against_40 : decode cX6_against 40 = .ok (.aload_n 0, 1) := by decide +kernel
set_option maxRecDepth 20000 in
theorem dX6_against_41 : decode cX6_against 41 = .ok (.getfield 7, 3) := by decide +kernel
set_option maxRecDepth 20000 in
theorem dX6_against_44 : decode cX6_against 44 = .ok (.bipush 45, 2) := by decide +kernel
set_option maxRecDepth 20000 in
theorem dX6_against_46 : decode cX6_against 46 = .ok (.bipush 6, 2) := by decide +kernel
set_option maxRecDepth 20000 in
theorem dX6_against_48 : decode cX6_against 48 = .ok (.iload_n 3, 1) := by decide +kernel
set_option maxRecDepth 20000 in
theorem dX6_against_49 : decode cX6_against 49 = .ok (.imul, 1) := by decide +kernel
set_option maxRecDepth 20000 in
theorem dX6_against_50 : decode cX6_against 50 = .ok (.iadd, 1) := by decide +kernel
set_option maxRecDepth 20000 in
theorem dX6_against_51 : decode cX6_against 51 = .ok (.iload 6, 2) := by decide +kernel
set_option maxRecDepth 20000 in
theorem dX6_against_53 : decode cX6_against 53 = .ok (.iadd, 1) := by decide +kernel
set_option maxRecDepth 20000 in
theorem dX6_against_54 : decode cX6_against 54 = .ok (.iaload, 1) := by decide +kernel
set_option maxRecDepth 20000 in
theorem dX6_against_55 : decode cX6_against 55 = .ok (.i2l, 1) := by decide +kernel
set_option maxRecDepth 20000 in
theorem dX6_against_56 : decode cX6_against 56 = .ok (.lmul, 1) := by decide +kernel
set_option maxRecDepth 20000 in
theorem dX6_against_57 : decode cX6_against 57 = .ok (.bipush 6, 2) := by decide +kernel
set_option maxRecDepth 20000 in
theorem dX6_against_59 : decode cX6_against 59 = .ok (.aload_n 0, 1) := by decide +kernel
set_option maxRecDepth 20000 in
theorem dX6_against_60 : decode cX6_against 60 = .ok (.getfield 7, 3) := by decide +kernel
set_option maxRecDepth 20000 in
theorem dX6_against_63 : decode cX6_against 63 = .ok (.iconst 1, 1) := by decide +kernel
set_option maxRecDepth 20000 in
theorem dX6_against_64 : decode cX6_against 64 = .ok (.iload 6, 2) := by decide +kernel
set_option maxRecDepth 20000 in
theorem dX6_against_66 : decode cX6_against 66 = .ok (.invokestatic 81, 3) := by decide +kernel
set_option maxRecDepth 20000 in
theorem dX6_against_69 : decode cX6_against 69 = .ok (.idiv, 1) := by decide +kernel
set_option maxRecDepth 20000 in
theorem dX6_against_70 : decode cX6_against 70 = .ok (.i2l, 1) := by decide +kernel
set_option maxRecDepth 20000 in
theorem dX6_against_71 : decode cX6_against 71 = .ok (.lmul, 1) := by decide +kernel
set_option maxRecDepth 20000 in
theorem dX6_against_72 : decode cX6_against 72 = .ok (.ladd, 1) := by decide +kernel
set_option maxRecDepth 20000 in
theorem dX6_against_73 : decode cX6_against 73 = .ok (.lstore 4, 2) := by decide +kernel
set_option maxRecDepth 20000 in
theorem dX6_against_75 : decode cX6_against 75 = .ok (.iinc 6 1, 3) := by decide +kernel
set_option maxRecDepth 20000 in
theorem dX6_against_78 : decode cX6_against 78 = .ok (.goto (-59), 3) := by decide +kernel
set_option maxRecDepth 20000 in
theorem dX6_against_81 : decode cX6_against 81 = .ok (.lload 4, 2) := by decide +kernel
set_option maxRecDepth 20000 in
theorem dX6_against_83 : decode cX6_against 83 = .ok (.lreturn, 1) := by decide +kernel
set_option maxRecDepth 20000 in
theorem dX6_laysProducts_0 : decode cX6_laysProducts 0 = .ok (.iload_n 2, 1) := by decide +kernel
set_option maxRecDepth 20000 in
theorem dX6_laysProducts_1 : decode cX6_laysProducts 1 = .ok (.invokestatic 99, 3) := by decide +kernel
set_option maxRecDepth 20000 in
theorem dX6_laysProducts_4 : decode cX6_laysProducts 4 = .ok (.istore_n 3, 1) := by decide +kernel
set_option maxRecDepth 20000 in
theorem dX6_laysProducts_5 : decode cX6_laysProducts 5 = .ok (.iconst 0, 1) := by decide +kernel
set_option maxRecDepth 20000 in
theorem dX6_laysProducts_6 : decode cX6_laysProducts 6 = .ok (.istore 4, 2) := by decide +kernel
set_option maxRecDepth 20000 in
theorem dX6_laysProducts_8 : decode cX6_laysProducts 8 = .ok (.iload 4, 2) := by decide +kernel
set_option maxRecDepth 20000 in
theorem dX6_laysProducts_10 : decode cX6_laysProducts 10 = .ok (.iload_n 3, 1) := by decide +kernel
set_option maxRecDepth 20000 in
theorem dX6_laysProducts_11 : decode cX6_laysProducts 11 = .ok (.iload_n 3, 1) := by decide +kernel
set_option maxRecDepth 20000 in
theorem dX6_laysProducts_12 : decode cX6_laysProducts 12 = .ok (.imul, 1) := by decide +kernel
set_option maxRecDepth 20000 in
theorem dX6_laysProducts_13 : decode cX6_laysProducts 13 = .ok (.if_icmp .ge 47, 3) := by decide +kernel
set_option maxRecDepth 20000 in
theorem dX6_laysProducts_16 : decode cX6_laysProducts 16 = .ok (.aload_n 0, 1) := by decide +kernel
set_option maxRecDepth 20000 in
theorem dX6_laysProducts_17 : decode cX6_laysProducts 17 = .ok (.getfield 29, 3) := by decide +kernel
set_option maxRecDepth 20000 in
theorem dX6_laysProducts_20 : decode cX6_laysProducts 20 = .ok (.bipush 6, 2) := by decide +kernel
set_option maxRecDepth 20000 in
theorem dX6_laysProducts_22 : decode cX6_laysProducts 22 = .ok (.iload 4, 2) := by decide +kernel
set_option maxRecDepth 20000 in
theorem dX6_laysProducts_24 : decode cX6_laysProducts 24 = .ok (.iload_n 3, 1) := by decide +kernel
set_option maxRecDepth 20000 in
theorem dX6_laysProducts_25 : decode cX6_laysProducts 25 = .ok (.idiv, 1) := by decide +kernel
set_option maxRecDepth 20000 in
theorem dX6_laysProducts_26 : decode cX6_laysProducts 26 = .ok (.imul, 1) := by decide +kernel
set_option maxRecDepth 20000 in
theorem dX6_laysProducts_27 : decode cX6_laysProducts 27 = .ok (.iload 4, 2) := by decide +kernel
set_option maxRecDepth 20000 in
theorem dX6_laysProducts_29 : decode cX6_laysProducts 29 = .ok (.iload_n 3, 1) := by decide +kernel
set_option maxRecDepth 20000 in
theorem dX6_laysProducts_30 : decode cX6_laysProducts 30 = .ok (.irem, 1) := by decide +kernel
set_option maxRecDepth 20000 in
theorem dX6_laysProducts_31 : decode cX6_laysProducts 31 = .ok (.iadd, 1) := by decide +kernel
set_option maxRecDepth 20000 in
theorem dX6_laysProducts_32 : decode cX6_laysProducts 32 = .ok (.aload_n 0, 1) := by decide +kernel
set_option maxRecDepth 20000 in
theorem dX6_laysProducts_33 : decode cX6_laysProducts 33 = .ok (.iload_n 1, 1) := by decide +kernel
set_option maxRecDepth 20000 in
theorem dX6_laysProducts_34 : decode cX6_laysProducts 34 = .ok (.iload_n 2, 1) := by decide +kernel
set_option maxRecDepth 20000 in
theorem dX6_laysProducts_35 : decode cX6_laysProducts 35 = .ok (.iload 4, 2) := by decide +kernel
set_option maxRecDepth 20000 in
theorem dX6_laysProducts_37 : decode cX6_laysProducts 37 = .ok (.iload_n 3, 1) := by decide +kernel
set_option maxRecDepth 20000 in
theorem dX6_laysProducts_38 : decode cX6_laysProducts 38 = .ok (.idiv, 1) := by decide +kernel
set_option maxRecDepth 20000 in
theorem dX6_laysProducts_39 : decode cX6_laysProducts 39 = .ok (.invokestatic 102, 3) := by decide +kernel
set_option maxRecDepth 20000 in
theorem dX6_laysProducts_42 : decode cX6_laysProducts 42 = .ok (.iload_n 2, 1) := by decide +kernel
set_option maxRecDepth 20000 in
theorem dX6_laysProducts_43 : decode cX6_laysProducts 43 = .ok (.iload 4, 2) := by decide +kernel
set_option maxRecDepth 20000 in
theorem dX6_laysProducts_45 : decode cX6_laysProducts 45 = .ok (.iload_n 3, 1) := by decide +kernel
set_option maxRecDepth 20000 in
theorem dX6_laysProducts_46 : decode cX6_laysProducts 46 = .ok (.irem, 1) := by decide +kernel
set_option maxRecDepth 20000 in
theorem dX6_laysProducts_47 : decode cX6_laysProducts 47 = .ok (.invokestatic 102, 3) := by decide +kernel
set_option maxRecDepth 20000 in
theorem dX6_laysProducts_50 : decode cX6_laysProducts 50 = .ok (.invokevirtual 330, 3) := by decide +kernel
set_option maxRecDepth 20000 in
theorem dX6_laysProducts_53 : decode cX6_laysProducts 53 = .ok (.lastore, 1) := by decide +kernel
set_option maxRecDepth 20000 in
theorem dX6_laysProducts_54 : decode cX6_laysProducts 54 = .ok (.iinc 4 1, 3) := by decide +kernel
set_option maxRecDepth 20000 in
theorem dX6_laysProducts_57 : decode cX6_laysProducts 57 = .ok (.goto (-49), 3) := by decide +kernel
set_option maxRecDepth 20000 in
theorem dX6_laysProducts_60 : decode cX6_laysProducts 60 = .ok (.return_, 1) := by decide +kernel
set_option maxRecDepth 20000 in
theorem dX6_solves_0 : decode cX6_solves 0 = .ok (.iload_n 2, 1) := by decide +kernel
set_option maxRecDepth 20000 in
theorem dX6_solves_1 : decode cX6_solves 1 = .ok (.invokestatic 99, 3) := by decide +kernel
set_option maxRecDepth 20000 in
theorem dX6_solves_4 : decode cX6_solves 4 = .ok (.istore 4, 2) := by decide +kernel
set_option maxRecDepth 20000 in
theorem dX6_solves_6 : decode cX6_solves 6 = .ok (.aload_n 0, 1) := by decide +kernel
set_option maxRecDepth 20000 in
theorem dX6_solves_7 : decode cX6_solves 7 = .ok (.iload_n 1, 1) := by decide +kernel
set_option maxRecDepth 20000 in
theorem dX6_solves_8 : decode cX6_solves 8 = .ok (.iload_n 2, 1) := by decide +kernel
set_option maxRecDepth 20000 in
theorem dX6_solves_9 : decode cX6_solves 9 = .ok (.invokevirtual 334, 3) := by decide +kernel
set_option maxRecDepth 20000 in
theorem dX6_solves_12 : decode cX6_solves 12 = .ok (.aload_n 0, 1) := by decide +kernel
set_option maxRecDepth 20000 in
theorem dX6_solves_13 : decode cX6_solves 13 = .ok (.aload_n 0, 1) := by decide +kernel
set_option maxRecDepth 20000 in
theorem dX6_solves_14 : decode cX6_solves 14 = .ok (.iload 4, 2) := by decide +kernel
set_option maxRecDepth 20000 in
theorem dX6_solves_16 : decode cX6_solves 16 = .ok (.invokevirtual 109, 3) := by decide +kernel
set_option maxRecDepth 20000 in
theorem dX6_solves_19 : decode cX6_solves 19 = .ok (.putfield 337, 3) := by decide +kernel
set_option maxRecDepth 20000 in
theorem dX6_solves_22 : decode cX6_solves 22 = .ok (.iconst 0, 1) := by decide +kernel
set_option maxRecDepth 20000 in
theorem dX6_solves_23 : decode cX6_solves 23 = .ok (.istore 5, 2) := by decide +kernel
set_option maxRecDepth 20000 in
theorem dX6_solves_25 : decode cX6_solves 25 = .ok (.iload 5, 2) := by decide +kernel
set_option maxRecDepth 20000 in
theorem dX6_solves_27 : decode cX6_solves 27 = .ok (.iload 4, 2) := by decide +kernel
set_option maxRecDepth 20000 in
theorem dX6_solves_29 : decode cX6_solves 29 = .ok (.if_icmp .ge 69, 3) := by decide +kernel
set_option maxRecDepth 20000 in
theorem dX6_solves_32 : decode cX6_solves 32 = .ok (.aload_n 0, 1) := by decide +kernel
set_option maxRecDepth 20000 in
theorem dX6_solves_33 : decode cX6_solves 33 = .ok (.iload_n 1, 1) := by decide +kernel
set_option maxRecDepth 20000 in
theorem dX6_solves_34 : decode cX6_solves 34 = .ok (.iload_n 2, 1) := by decide +kernel
set_option maxRecDepth 20000 in
theorem dX6_solves_35 : decode cX6_solves 35 = .ok (.invokevirtual 334, 3) := by decide +kernel
set_option maxRecDepth 20000 in
theorem dX6_solves_38 : decode cX6_solves 38 = .ok (.iconst 0, 1) := by decide +kernel
set_option maxRecDepth 20000 in
theorem dX6_solves_39 : decode cX6_solves 39 = .ok (.istore 6, 2) := by decide +kernel
set_option maxRecDepth 20000 in
theorem dX6_solves_41 : decode cX6_solves 41 = .ok (.iload 6, 2) := by decide +kernel
set_option maxRecDepth 20000 in
theorem dX6_solves_43 : decode cX6_solves 43 = .ok (.iload 4, 2) := by decide +kernel
set_option maxRecDepth 20000 in
theorem dX6_solves_45 : decode cX6_solves 45 = .ok (.if_icmp .ge 34, 3) := by decide +kernel
set_option maxRecDepth 20000 in
theorem dX6_solves_48 : decode cX6_solves 48 = .ok (.aload_n 0, 1) := by decide +kernel
set_option maxRecDepth 20000 in
theorem dX6_solves_49 : decode cX6_solves 49 = .ok (.getfield 29, 3) := by decide +kernel
set_option maxRecDepth 20000 in
theorem dX6_solves_52 : decode cX6_solves 52 = .ok (.bipush 6, 2) := by decide +kernel
set_option maxRecDepth 20000 in
theorem dX6_solves_54 : decode cX6_solves 54 = .ok (.iload 6, 2) := by decide +kernel
set_option maxRecDepth 20000 in
theorem dX6_solves_56 : decode cX6_solves 56 = .ok (.imul, 1) := by decide +kernel
set_option maxRecDepth 20000 in
theorem dX6_solves_57 : decode cX6_solves 57 = .ok (.iload 5, 2) := by decide +kernel
set_option maxRecDepth 20000 in
theorem dX6_solves_59 : decode cX6_solves 59 = .ok (.iadd, 1) := by decide +kernel
set_option maxRecDepth 20000 in
theorem dX6_solves_60 : decode cX6_solves 60 = .ok (.aload_n 0, 1) := by decide +kernel
set_option maxRecDepth 20000 in
theorem dX6_solves_61 : decode cX6_solves 61 = .ok (.iload_n 1, 1) := by decide +kernel
set_option maxRecDepth 20000 in
theorem dX6_solves_62 : decode cX6_solves 62 = .ok (.iload_n 2, 1) := by decide +kernel
set_option maxRecDepth 20000 in
theorem dX6_solves_63 : decode cX6_solves 63 = .ok (.iload 6, 2) := by decide +kernel
set_option maxRecDepth 20000 in
theorem dX6_solves_65 : decode cX6_solves 65 = .ok (.invokestatic 102, 3) := by decide +kernel
set_option maxRecDepth 20000 in
theorem dX6_solves_68 : decode cX6_solves 68 = .ok (.iload_n 3, 1) := by decide +kernel
set_option maxRecDepth 20000 in
theorem dX6_solves_69 : decode cX6_solves 69 = .ok (.invokevirtual 341, 3) := by decide +kernel
set_option maxRecDepth 20000 in
theorem dX6_solves_72 : decode cX6_solves 72 = .ok (.lastore, 1) := by decide +kernel
set_option maxRecDepth 20000 in
theorem dX6_solves_73 : decode cX6_solves 73 = .ok (.iinc 6 1, 3) := by decide +kernel
set_option maxRecDepth 20000 in
theorem dX6_solves_76 : decode cX6_solves 76 = .ok (.goto (-35), 3) := by decide +kernel
set_option maxRecDepth 20000 in
theorem dX6_solves_79 : decode cX6_solves 79 = .ok (.aload_n 0, 1) := by decide +kernel
set_option maxRecDepth 20000 in
theorem dX6_solves_80 : decode cX6_solves 80 = .ok (.getfield 33, 3) := by decide +kernel
set_option maxRecDepth 20000 in
theorem dX6_solves_83 : decode cX6_solves 83 = .ok (.iload 5, 2) := by decide +kernel
set_option maxRecDepth 20000 in
theorem dX6_solves_85 : decode cX6_solves 85 = .ok (.aload_n 0, 1) := by decide +kernel
set_option maxRecDepth 20000 in
theorem dX6_solves_86 : decode cX6_solves 86 = .ok (.iload 4, 2) := by decide +kernel
set_option maxRecDepth 20000 in
theorem dX6_solves_88 : decode cX6_solves 88 = .ok (.invokevirtual 109, 3) := by decide +kernel
set_option maxRecDepth 20000 in
theorem dX6_solves_91 : decode cX6_solves 91 = .ok (.lastore, 1) := by decide +kernel
set_option maxRecDepth 20000 in
theorem dX6_solves_92 : decode cX6_solves 92 = .ok (.iinc 5 1, 3) := by decide +kernel
set_option maxRecDepth 20000 in
theorem dX6_solves_95 : decode cX6_solves 95 = .ok (.goto (-70), 3) := by decide +kernel
set_option maxRecDepth 20000 in
theorem dX6_solves_98 : decode cX6_solves 98 = .ok (.return_, 1) := by decide +kernel
set_option maxRecDepth 20000 in
theorem dX6_tells_0 : decode cX6_tells 0 = .ok (.lload_n 2, 1) := by decide +kernel
set_option maxRecDepth 20000 in
theorem dX6_tells_1 : decode cX6_tells 1 = .ok (.lload 4, 2) := by decide +kernel
set_option maxRecDepth 20000 in
theorem dX6_tells_3 : decode cX6_tells 3 = .ok (.invokestatic 117, 3) := by decide +kernel
set_option maxRecDepth 20000 in
theorem dX6_tells_6 : decode cX6_tells 6 = .ok (.lstore 6, 2) := by decide +kernel
set_option maxRecDepth 20000 in
theorem dX6_tells_8 : decode cX6_tells 8 = .ok (.lload 4, 2) := by decide +kernel
set_option maxRecDepth 20000 in
theorem dX6_tells_10 : decode cX6_tells 10 = .ok (.lconst 0, 1) := by decide +kernel
set_option maxRecDepth 20000 in
theorem dX6_tells_11 : decode cX6_tells 11 = .ok (.lcmp, 1) := by decide +kernel
set_option maxRecDepth 20000 in
theorem dX6_tells_12 : decode cX6_tells 12 = .ok (.ifCond .ge 9, 3) := by decide +kernel
set_option maxRecDepth 20000 in
theorem dX6_tells_15 : decode cX6_tells 15 = .ok (.lload 6, 2) := by decide +kernel
set_option maxRecDepth 20000 in
theorem dX6_tells_17 : decode cX6_tells 17 = .ok (.lneg, 1) := by decide +kernel
set_option maxRecDepth 20000 in
theorem dX6_tells_18 : decode cX6_tells 18 = .ok (.goto 5, 3) := by decide +kernel
set_option maxRecDepth 20000 in
theorem dX6_tells_21 : decode cX6_tells 21 = .ok (.lload 6, 2) := by decide +kernel
set_option maxRecDepth 20000 in
theorem dX6_tells_23 : decode cX6_tells 23 = .ok (.lstore 6, 2) := by decide +kernel
set_option maxRecDepth 20000 in
theorem dX6_tells_25 : decode cX6_tells 25 = .ok (.aload_n 0, 1) := by decide +kernel
set_option maxRecDepth 20000 in
theorem dX6_tells_26 : decode cX6_tells 26 = .ok (.getfield 36, 3) := by decide +kernel
set_option maxRecDepth 20000 in
theorem dX6_tells_29 : decode cX6_tells 29 = .ok (.iload_n 1, 1) := by decide +kernel
set_option maxRecDepth 20000 in
theorem dX6_tells_30 : decode cX6_tells 30 = .ok (.lload_n 2, 1) := by decide +kernel
set_option maxRecDepth 20000 in
theorem dX6_tells_31 : decode cX6_tells 31 = .ok (.lload 6, 2) := by decide +kernel
set_option maxRecDepth 20000 in
theorem dX6_tells_33 : decode cX6_tells 33 = .ok (.ldiv, 1) := by decide +kernel
set_option maxRecDepth 20000 in
theorem dX6_tells_34 : decode cX6_tells 34 = .ok (.lastore, 1) := by decide +kernel
set_option maxRecDepth 20000 in
theorem dX6_tells_35 : decode cX6_tells 35 = .ok (.aload_n 0, 1) := by decide +kernel
set_option maxRecDepth 20000 in
theorem dX6_tells_36 : decode cX6_tells 36 = .ok (.getfield 39, 3) := by decide +kernel
set_option maxRecDepth 20000 in
theorem dX6_tells_39 : decode cX6_tells 39 = .ok (.iload_n 1, 1) := by decide +kernel
set_option maxRecDepth 20000 in
theorem dX6_tells_40 : decode cX6_tells 40 = .ok (.lload 4, 2) := by decide +kernel
set_option maxRecDepth 20000 in
theorem dX6_tells_42 : decode cX6_tells 42 = .ok (.lload 6, 2) := by decide +kernel
set_option maxRecDepth 20000 in
theorem dX6_tells_44 : decode cX6_tells 44 = .ok (.ldiv, 1) := by decide +kernel
set_option maxRecDepth 20000 in
theorem dX6_tells_45 : decode cX6_tells 45 = .ok (.lastore, 1) := by decide +kernel
set_option maxRecDepth 20000 in
theorem dX6_tells_46 : decode cX6_tells 46 = .ok (.return_, 1) := by decide +kernel
set_option maxRecDepth 20000 in
theorem dX6_spans_0 : decode cX6_spans 0 = .ok (.aload_n 0, 1) := by decide +kernel
set_option maxRecDepth 20000 in
theorem dX6_spans_1 : decode cX6_spans 1 = .ok (.iload_n 1, 1) := by decide +kernel
set_option maxRecDepth 20000 in
theorem dX6_spans_2 : decode cX6_spans 2 = .ok (.invokevirtual 344, 3) := by decide +kernel
set_option maxRecDepth 20000 in
theorem dX6_spans_5 : decode cX6_spans 5 = .ok (.istore_n 3, 1) := by decide +kernel
set_option maxRecDepth 20000 in
theorem dX6_spans_6 : decode cX6_spans 6 = .ok (.aload_n 0, 1) := by decide +kernel
set_option maxRecDepth 20000 in
theorem dX6_spans_7 : decode cX6_spans 7 = .ok (.iload_n 1, 1) := by decide +kernel
set_option maxRecDepth 20000 in
theorem dX6_spans_8 : decode cX6_spans 8 = .ok (.iload_n 3, 1) := by decide +kernel
set_option maxRecDepth 20000 in
theorem dX6_spans_9 : decode cX6_spans 9 = .ok (.iload_n 2, 1) := by decide +kernel
set_option maxRecDepth 20000 in
theorem dX6_spans_10 : decode cX6_spans 10 = .ok (.invokevirtual 347, 3) := by decide +kernel
set_option maxRecDepth 20000 in
theorem dX6_spans_13 : decode cX6_spans 13 = .ok (.iconst 0, 1) := by decide +kernel
set_option maxRecDepth 20000 in
theorem dX6_spans_14 : decode cX6_spans 14 = .ok (.istore 4, 2) := by decide +kernel
set_option maxRecDepth 20000 in
theorem dX6_spans_16 : decode cX6_spans 16 = .ok (.iload 4, 2) := by decide +kernel
set_option maxRecDepth 20000 in
theorem dX6_spans_18 : decode cX6_spans 18 = .ok (.aload_n 0, 1) := by decide +kernel
set_option maxRecDepth 20000 in
theorem dX6_spans_19 : decode cX6_spans 19 = .ok (.getfield 7, 3) := by decide +kernel
set_option maxRecDepth 20000 in
theorem dX6_spans_22 : decode cX6_spans 22 = .ok (.iconst 1, 1) := by decide +kernel
set_option maxRecDepth 20000 in
theorem dX6_spans_23 : decode cX6_spans 23 = .ok (.iaload, 1) := by decide +kernel
set_option maxRecDepth 20000 in
theorem dX6_spans_24 : decode cX6_spans 24 = .ok (.if_icmp .ge 105, 3) := by decide +kernel
set_option maxRecDepth 20000 in
theorem dX6_spans_27 : decode cX6_spans 27 = .ok (.lconst 0, 1) := by decide +kernel
set_option maxRecDepth 20000 in
theorem dX6_spans_28 : decode cX6_spans 28 = .ok (.lstore 5, 2) := by decide +kernel
set_option maxRecDepth 20000 in
theorem dX6_spans_30 : decode cX6_spans 30 = .ok (.iconst 0, 1) := by decide +kernel
set_option maxRecDepth 20000 in
theorem dX6_spans_31 : decode cX6_spans 31 = .ok (.istore 7, 2) := by decide +kernel
set_option maxRecDepth 20000 in
theorem dX6_spans_33 : decode cX6_spans 33 = .ok (.iload 7, 2) := by decide +kernel
set_option maxRecDepth 20000 in
theorem dX6_spans_35 : decode cX6_spans 35 = .ok (.iload_n 3, 1) := by decide +kernel
set_option maxRecDepth 20000 in
theorem dX6_spans_36 : decode cX6_spans 36 = .ok (.invokestatic 99, 3) := by decide +kernel
set_option maxRecDepth 20000 in
theorem dX6_spans_39 : decode cX6_spans 39 = .ok (.if_icmp .ge 72, 3) := by decide +kernel
set_option maxRecDepth 20000 in
theorem dX6_spans_42 : decode cX6_spans 42 = .ok (.iload_n 1, 1) := by decide +kernel
set_option maxRecDepth 20000 in
theorem dX6_spans_43 : decode cX6_spans 43 = .ok (.iconst 1, 1) := by decide +kernel
set_option maxRecDepth 20000 in
theorem dX6_spans_44 : decode cX6_spans 44 = .ok (.if_icmp .ne 31, 3) := by decide +kernel
set_option maxRecDepth 20000 in
theorem dX6_spans_47 : decode cX6_spans 47 = .ok (.aload_n 0, 1) := by decide +kernel
set_option maxRecDepth 20000 in
theorem dX6_spans_48 : decode cX6_spans 48 = .ok (.getfield 7, 3) := by decide +kernel
set_option maxRecDepth 20000 in
theorem dX6_spans_51 : decode cX6_spans 51 = .ok (.iconst 1, 1) := by decide +kernel
set_option maxRecDepth 20000 in
theorem dX6_spans_52 : decode cX6_spans 52 = .ok (.iload 4, 2) := by decide +kernel
set_option maxRecDepth 20000 in
theorem dX6_spans_54 : decode cX6_spans 54 = .ok (.invokestatic 81, 3) := by decide +kernel
set_option maxRecDepth 20000 in
theorem dX6_spans_57 : decode cX6_spans 57 = .ok (.i2l, 1) := by decide +kernel
set_option maxRecDepth 20000 in
theorem dX6_spans_58 : decode cX6_spans 58 = .ok (.aload_n 0, 1) := by decide +kernel
set_option maxRecDepth 20000 in
theorem dX6_spans_59 : decode cX6_spans 59 = .ok (.iload_n 3, 1) := by decide +kernel
set_option maxRecDepth 20000 in
theorem dX6_spans_60 : decode cX6_spans 60 = .ok (.iload 7, 2) := by decide +kernel
set_option maxRecDepth 20000 in
theorem dX6_spans_62 : decode cX6_spans 62 = .ok (.invokestatic 102, 3) := by decide +kernel
set_option maxRecDepth 20000 in
theorem dX6_spans_65 : decode cX6_spans 65 = .ok (.iload 4, 2) := by decide +kernel
set_option maxRecDepth 20000 in
theorem dX6_spans_67 : decode cX6_spans 67 = .ok (.invokevirtual 67, 3) := by decide +kernel
set_option maxRecDepth 20000 in
theorem dX6_spans_70 : decode cX6_spans 70 = .ok (.i2l, 1) := by decide +kernel
set_option maxRecDepth 20000 in
theorem dX6_spans_71 : decode cX6_spans 71 = .ok (.lmul, 1) := by decide +kernel
set_option maxRecDepth 20000 in
theorem dX6_spans_72 : decode cX6_spans 72 = .ok (.goto 16, 3) := by decide +kernel
set_option maxRecDepth 20000 in
theorem dX6_spans_75 : decode cX6_spans 75 = .ok (.aload_n 0, 1) := by decide +kernel
set_option maxRecDepth 20000 in
theorem dX6_spans_76 : decode cX6_spans 76 = .ok (.iload 4, 2) := by decide +kernel
set_option maxRecDepth 20000 in
theorem dX6_spans_78 : decode cX6_spans 78 = .ok (.iload_n 3, 1) := by decide +kernel
set_option maxRecDepth 20000 in
theorem dX6_spans_79 : decode cX6_spans 79 = .ok (.iload 7, 2) := by decide +kernel
set_option maxRecDepth 20000 in
theorem dX6_spans_81 : decode cX6_spans 81 = .ok (.invokestatic 102, 3) := by decide +kernel
set_option maxRecDepth 20000 in
theorem dX6_spans_84 : decode cX6_spans 84 = .ok (.invokevirtual 71, 3) := by decide +kernel
set_option maxRecDepth 20000 in
theorem dX6_spans_87 : decode cX6_spans 87 = .ok (.i2l, 1) := by decide +kernel
set_option maxRecDepth 20000 in
theorem dX6_spans_88 : decode cX6_spans 88 = .ok (.lstore 8, 2) := by decide +kernel
set_option maxRecDepth 20000 in
theorem dX6_spans_90 : decode cX6_spans 90 = .ok (.lload 5, 2) := by decide +kernel
set_option maxRecDepth 20000 in
theorem dX6_spans_92 : decode cX6_spans 92 = .ok (.lload 8, 2) := by decide +kernel
set_option maxRecDepth 20000 in
theorem dX6_spans_94 : decode cX6_spans 94 = .ok (.aload_n 0, 1) := by decide +kernel
set_option maxRecDepth 20000 in
theorem dX6_spans_95 : decode cX6_spans 95 = .ok (.getfield 33, 3) := by decide +kernel
set_option maxRecDepth 20000 in
theorem dX6_spans_98 : decode cX6_spans 98 = .ok (.iload 7, 2) := by decide +kernel
set_option maxRecDepth 20000 in
theorem dX6_spans_100 : decode cX6_spans 100 = .ok (.laload, 1) := by decide +kernel
set_option maxRecDepth 20000 in
theorem dX6_spans_101 : decode cX6_spans 101 = .ok (.lmul, 1) := by decide +kernel
set_option maxRecDepth 20000 in
theorem dX6_spans_102 : decode cX6_spans 102 = .ok (.ladd, 1) := by decide +kernel
set_option maxRecDepth 20000 in
theorem dX6_spans_103 : decode cX6_spans 103 = .ok (.lstore 5, 2) := by decide +kernel
set_option maxRecDepth 20000 in
theorem dX6_spans_105 : decode cX6_spans 105 = .ok (.iinc 7 1, 3) := by decide +kernel
set_option maxRecDepth 20000 in
theorem dX6_spans_108 : decode cX6_spans 108 = .ok (.goto (-75), 3) := by decide +kernel
set_option maxRecDepth 20000 in
theorem dX6_spans_111 : decode cX6_spans 111 = .ok (.aload_n 0, 1) := by decide +kernel
set_option maxRecDepth 20000 in
theorem dX6_spans_112 : decode cX6_spans 112 = .ok (.iload 4, 2) := by decide +kernel
set_option maxRecDepth 20000 in
theorem dX6_spans_114 : decode cX6_spans 114 = .ok (.lload 5, 2) := by decide +kernel
set_option maxRecDepth 20000 in
theorem dX6_spans_116 : decode cX6_spans 116 = .ok (.aload_n 0, 1) := by decide +kernel
set_option maxRecDepth 20000 in
theorem dX6_spans_117 : decode cX6_spans 117 = .ok (.getfield 337, 3) := by decide +kernel
set_option maxRecDepth 20000 in
theorem dX6_spans_120 : decode cX6_spans 120 = .ok (.invokevirtual 351, 3) := by decide +kernel
set_option maxRecDepth 20000 in
theorem dX6_spans_123 : decode cX6_spans 123 = .ok (.iinc 4 1, 3) := by decide +kernel
set_option maxRecDepth 20000 in
theorem dX6_spans_126 : decode cX6_spans 126 = .ok (.goto (-110), 3) := by decide +kernel
set_option maxRecDepth 20000 in
theorem dX6_spans_129 : decode cX6_spans 129 = .ok (.return_, 1) := by decide +kernel
set_option maxRecDepth 20000 in
theorem dX6_laysPart_0 : decode cX6_laysPart 0 = .ok (.aload_n 0, 1) := by decide +kernel
set_option maxRecDepth 20000 in
theorem dX6_laysPart_1 : decode cX6_laysPart 1 = .ok (.iload_n 2, 1) := by decide +kernel
set_option maxRecDepth 20000 in
theorem dX6_laysPart_2 : decode cX6_laysPart 2 = .ok (.iconst 1, 1) := by decide +kernel
set_option maxRecDepth 20000 in
theorem dX6_laysPart_3 : decode cX6_laysPart 3 = .ok (.if_icmp .ne 7, 3) := by decide +kernel
set_option maxRecDepth 20000 in
theorem dX6_laysPart_6 : decode cX6_laysPart 6 = .ok (.iconst 1, 1) := by decide +kernel
set_option maxRecDepth 20000 in
theorem dX6_laysPart_7 : decode cX6_laysPart 7 = .ok (.goto 4, 3) := by decide +kernel
set_option maxRecDepth 20000 in
theorem dX6_laysPart_10 : decode cX6_laysPart 10 = .ok (.iconst 2, 1) := by decide +kernel
set_option maxRecDepth 20000 in
theorem dX6_laysPart_11 : decode cX6_laysPart 11 = .ok (.iload_n 1, 1) := by decide +kernel
set_option maxRecDepth 20000 in
theorem dX6_laysPart_12 : decode cX6_laysPart 12 = .ok (.invokevirtual 355, 3) := by decide +kernel
set_option maxRecDepth 20000 in
theorem dX6_laysPart_15 : decode cX6_laysPart 15 = .ok (.iload_n 2, 1) := by decide +kernel
set_option maxRecDepth 20000 in
theorem dX6_laysPart_16 : decode cX6_laysPart 16 = .ok (.iconst 2, 1) := by decide +kernel
set_option maxRecDepth 20000 in
theorem dX6_laysPart_17 : decode cX6_laysPart 17 = .ok (.if_icmp .ge 4, 3) := by decide +kernel
set_option maxRecDepth 20000 in
theorem dX6_laysPart_20 : decode cX6_laysPart 20 = .ok (.return_, 1) := by decide +kernel
set_option maxRecDepth 20000 in
theorem dX6_laysPart_21 : decode cX6_laysPart 21 = .ok (.iconst 0, 1) := by decide +kernel
set_option maxRecDepth 20000 in
theorem dX6_laysPart_22 : decode cX6_laysPart 22 = .ok (.istore_n 3, 1) := by decide +kernel
set_option maxRecDepth 20000 in
theorem dX6_laysPart_23 : decode cX6_laysPart 23 = .ok (.iload_n 3, 1) := by decide +kernel
set_option maxRecDepth 20000 in
theorem dX6_laysPart_24 : decode cX6_laysPart 24 = .ok (.aload_n 0, 1) := by decide +kernel
set_option maxRecDepth 20000 in
theorem dX6_laysPart_25 : decode cX6_laysPart 25 = .ok (.getfield 7, 3) := by decide +kernel
set_option maxRecDepth 20000 in
theorem dX6_laysPart_28 : decode cX6_laysPart 28 = .ok (.iconst 1, 1) := by decide +kernel
set_option maxRecDepth 20000 in
theorem dX6_laysPart_29 : decode cX6_laysPart 29 = .ok (.iaload, 1) := by decide +kernel
set_option maxRecDepth 20000 in
theorem dX6_laysPart_30 : decode cX6_laysPart 30 = .ok (.if_icmp .ge 33, 3) := by decide +kernel
set_option maxRecDepth 20000 in
theorem dX6_laysPart_33 : decode cX6_laysPart 33 = .ok (.aload_n 0, 1) := by decide +kernel
set_option maxRecDepth 20000 in
theorem dX6_laysPart_34 : decode cX6_laysPart 34 = .ok (.getfield 42, 3) := by decide +kernel
set_option maxRecDepth 20000 in
theorem dX6_laysPart_37 : decode cX6_laysPart 37 = .ok (.iload_n 3, 1) := by decide +kernel
set_option maxRecDepth 20000 in
theorem dX6_laysPart_38 : decode cX6_laysPart 38 = .ok (.aload_n 0, 1) := by decide +kernel
set_option maxRecDepth 20000 in
theorem dX6_laysPart_39 : decode cX6_laysPart 39 = .ok (.getfield 36, 3) := by decide +kernel
set_option maxRecDepth 20000 in
theorem dX6_laysPart_42 : decode cX6_laysPart 42 = .ok (.iload_n 3, 1) := by decide +kernel
set_option maxRecDepth 20000 in
theorem dX6_laysPart_43 : decode cX6_laysPart 43 = .ok (.laload, 1) := by decide +kernel
set_option maxRecDepth 20000 in
theorem dX6_laysPart_44 : decode cX6_laysPart 44 = .ok (.lastore, 1) := by decide +kernel
set_option maxRecDepth 20000 in
theorem dX6_laysPart_45 : decode cX6_laysPart 45 = .ok (.aload_n 0, 1) := by decide +kernel
set_option maxRecDepth 20000 in
theorem dX6_laysPart_46 : decode cX6_laysPart 46 = .ok (.getfield 45, 3) := by decide +kernel
set_option maxRecDepth 20000 in
theorem dX6_laysPart_49 : decode cX6_laysPart 49 = .ok (.iload_n 3, 1) := by decide +kernel
set_option maxRecDepth 20000 in
theorem dX6_laysPart_50 : decode cX6_laysPart 50 = .ok (.aload_n 0, 1) := by decide +kernel
set_option maxRecDepth 20000 in
theorem dX6_laysPart_51 : decode cX6_laysPart 51 = .ok (.getfield 39, 3) := by decide +kernel
set_option maxRecDepth 20000 in
theorem dX6_laysPart_54 : decode cX6_laysPart 54 = .ok (.iload_n 3, 1) := by decide +kernel
set_option maxRecDepth 20000 in
theorem dX6_laysPart_55 : decode cX6_laysPart 55 = .ok (.laload, 1) := by decide +kernel
set_option maxRecDepth 20000 in
theorem dX6_laysPart_56 : decode cX6_laysPart 56 = .ok (.lastore, 1) := by decide +kernel
set_option maxRecDepth 20000 in
theorem dX6_laysPart_57 : decode cX6_laysPart 57 = .ok (.iinc 3 1, 3) := by decide +kernel
set_option maxRecDepth 20000 in
theorem dX6_laysPart_60 : decode cX6_laysPart 60 = .ok (.goto (-37), 3) := by decide +kernel
set_option maxRecDepth 20000 in
theorem dX6_laysPart_63 : decode cX6_laysPart 63 = .ok (.aload_n 0, 1) := by decide +kernel
set_option maxRecDepth 20000 in
theorem dX6_laysPart_64 : decode cX6_laysPart 64 = .ok (.iconst 1, 1) := by decide +kernel
set_option maxRecDepth 20000 in
theorem dX6_laysPart_65 : decode cX6_laysPart 65 = .ok (.iload_n 1, 1) := by decide +kernel
set_option maxRecDepth 20000 in
theorem dX6_laysPart_66 : decode cX6_laysPart 66 = .ok (.invokevirtual 355, 3) := by decide +kernel
set_option maxRecDepth 20000 in
theorem dX6_laysPart_69 : decode cX6_laysPart 69 = .ok (.iconst 0, 1) := by decide +kernel
set_option maxRecDepth 20000 in
theorem dX6_laysPart_70 : decode cX6_laysPart 70 = .ok (.istore_n 3, 1) := by decide +kernel
set_option maxRecDepth 20000 in
theorem dX6_laysPart_71 : decode cX6_laysPart 71 = .ok (.iload_n 3, 1) := by decide +kernel
set_option maxRecDepth 20000 in
theorem dX6_laysPart_72 : decode cX6_laysPart 72 = .ok (.aload_n 0, 1) := by decide +kernel
set_option maxRecDepth 20000 in
theorem dX6_laysPart_73 : decode cX6_laysPart 73 = .ok (.getfield 7, 3) := by decide +kernel
set_option maxRecDepth 20000 in
theorem dX6_laysPart_76 : decode cX6_laysPart 76 = .ok (.iconst 1, 1) := by decide +kernel
set_option maxRecDepth 20000 in
theorem dX6_laysPart_77 : decode cX6_laysPart 77 = .ok (.iaload, 1) := by decide +kernel
set_option maxRecDepth 20000 in
theorem dX6_laysPart_78 : decode cX6_laysPart 78 = .ok (.if_icmp .ge 77, 3) := by decide +kernel
set_option maxRecDepth 20000 in
theorem dX6_laysPart_81 : decode cX6_laysPart 81 = .ok (.aload_n 0, 1) := by decide +kernel
set_option maxRecDepth 20000 in
theorem dX6_laysPart_82 : decode cX6_laysPart 82 = .ok (.getfield 45, 3) := by decide +kernel
set_option maxRecDepth 20000 in
theorem dX6_laysPart_85 : decode cX6_laysPart 85 = .ok (.iload_n 3, 1) := by decide +kernel
set_option maxRecDepth 20000 in
theorem dX6_laysPart_86 : decode cX6_laysPart 86 = .ok (.laload, 1) := by decide +kernel
set_option maxRecDepth 20000 in
theorem dX6_laysPart_87 : decode cX6_laysPart 87 = .ok (.aload_n 0, 1) := by decide +kernel
set_option maxRecDepth 20000 in
theorem dX6_laysPart_88 : decode cX6_laysPart 88 = .ok (.getfield 39, 3) := by decide +kernel
set_option maxRecDepth 20000 in
theorem dX6_laysPart_91 : decode cX6_laysPart 91 = .ok (.iload_n 3, 1) := by decide +kernel
set_option maxRecDepth 20000 in
theorem dX6_laysPart_92 : decode cX6_laysPart 92 = .ok (.laload, 1) := by decide +kernel
set_option maxRecDepth 20000 in
theorem dX6_laysPart_93 : decode cX6_laysPart 93 = .ok (.lmul, 1) := by decide +kernel
set_option maxRecDepth 20000 in
theorem dX6_laysPart_94 : decode cX6_laysPart 94 = .ok (.lstore 4, 2) := by decide +kernel
set_option maxRecDepth 20000 in
theorem dX6_laysPart_96 : decode cX6_laysPart 96 = .ok (.aload_n 0, 1) := by decide +kernel
set_option maxRecDepth 20000 in
theorem dX6_laysPart_97 : decode cX6_laysPart 97 = .ok (.iload_n 3, 1) := by decide +kernel
set_option maxRecDepth 20000 in
theorem dX6_laysPart_98 : decode cX6_laysPart 98 = .ok (.aload_n 0, 1) := by decide +kernel
set_option maxRecDepth 20000 in
theorem dX6_laysPart_99 : decode cX6_laysPart 99 = .ok (.getfield 7, 3) := by decide +kernel
set_option maxRecDepth 20000 in
theorem dX6_laysPart_102 : decode cX6_laysPart 102 = .ok (.bipush 45, 2) := by decide +kernel
set_option maxRecDepth 20000 in
theorem dX6_laysPart_104 : decode cX6_laysPart 104 = .ok (.bipush 6, 2) := by decide +kernel
set_option maxRecDepth 20000 in
theorem dX6_laysPart_106 : decode cX6_laysPart 106 = .ok (.iload_n 1, 1) := by decide +kernel
set_option maxRecDepth 20000 in
theorem dX6_laysPart_107 : decode cX6_laysPart 107 = .ok (.imul, 1) := by decide +kernel
set_option maxRecDepth 20000 in
theorem dX6_laysPart_108 : decode cX6_laysPart 108 = .ok (.iadd, 1) := by decide +kernel
set_option maxRecDepth 20000 in
theorem dX6_laysPart_109 : decode cX6_laysPart 109 = .ok (.iload_n 3, 1) := by decide +kernel
set_option maxRecDepth 20000 in
theorem dX6_laysPart_110 : decode cX6_laysPart 110 = .ok (.iadd, 1) := by decide +kernel
set_option maxRecDepth 20000 in
theorem dX6_laysPart_111 : decode cX6_laysPart 111 = .ok (.iaload, 1) := by decide +kernel
set_option maxRecDepth 20000 in
theorem dX6_laysPart_112 : decode cX6_laysPart 112 = .ok (.i2l, 1) := by decide +kernel
set_option maxRecDepth 20000 in
theorem dX6_laysPart_113 : decode cX6_laysPart 113 = .ok (.lload 4, 2) := by decide +kernel
set_option maxRecDepth 20000 in
theorem dX6_laysPart_115 : decode cX6_laysPart 115 = .ok (.lmul, 1) := by decide +kernel
set_option maxRecDepth 20000 in
theorem dX6_laysPart_116 : decode cX6_laysPart 116 = .ok (.aload_n 0, 1) := by decide +kernel
set_option maxRecDepth 20000 in
theorem dX6_laysPart_117 : decode cX6_laysPart 117 = .ok (.getfield 42, 3) := by decide +kernel
set_option maxRecDepth 20000 in
theorem dX6_laysPart_120 : decode cX6_laysPart 120 = .ok (.iload_n 3, 1) := by decide +kernel
set_option maxRecDepth 20000 in
theorem dX6_laysPart_121 : decode cX6_laysPart 121 = .ok (.laload, 1) := by decide +kernel
set_option maxRecDepth 20000 in
theorem dX6_laysPart_122 : decode cX6_laysPart 122 = .ok (.aload_n 0, 1) := by decide +kernel
set_option maxRecDepth 20000 in
theorem dX6_laysPart_123 : decode cX6_laysPart 123 = .ok (.getfield 39, 3) := by decide +kernel
set_option maxRecDepth 20000 in
theorem dX6_laysPart_126 : decode cX6_laysPart 126 = .ok (.iload_n 3, 1) := by decide +kernel
set_option maxRecDepth 20000 in
theorem dX6_laysPart_127 : decode cX6_laysPart 127 = .ok (.laload, 1) := by decide +kernel
set_option maxRecDepth 20000 in
theorem dX6_laysPart_128 : decode cX6_laysPart 128 = .ok (.lmul, 1) := by decide +kernel
set_option maxRecDepth 20000 in
theorem dX6_laysPart_129 : decode cX6_laysPart 129 = .ok (.lsub, 1) := by decide +kernel
set_option maxRecDepth 20000 in
theorem dX6_laysPart_130 : decode cX6_laysPart 130 = .ok (.aload_n 0, 1) := by decide +kernel
set_option maxRecDepth 20000 in
theorem dX6_laysPart_131 : decode cX6_laysPart 131 = .ok (.getfield 36, 3) := by decide +kernel
set_option maxRecDepth 20000 in
theorem dX6_laysPart_134 : decode cX6_laysPart 134 = .ok (.iload_n 3, 1) := by decide +kernel
set_option maxRecDepth 20000 in
theorem dX6_laysPart_135 : decode cX6_laysPart 135 = .ok (.laload, 1) := by decide +kernel
set_option maxRecDepth 20000 in
theorem dX6_laysPart_136 : decode cX6_laysPart 136 = .ok (.aload_n 0, 1) := by decide +kernel
set_option maxRecDepth 20000 in
theorem dX6_laysPart_137 : decode cX6_laysPart 137 = .ok (.getfield 45, 3) := by decide +kernel
set_option maxRecDepth 20000 in
theorem dX6_laysPart_140 : decode cX6_laysPart 140 = .ok (.iload_n 3, 1) := by decide +kernel
set_option maxRecDepth 20000 in
theorem dX6_laysPart_141 : decode cX6_laysPart 141 = .ok (.laload, 1) := by decide +kernel
set_option maxRecDepth 20000 in
theorem dX6_laysPart_142 : decode cX6_laysPart 142 = .ok (.lmul, 1) := by decide +kernel
set_option maxRecDepth 20000 in
theorem dX6_laysPart_143 : decode cX6_laysPart 143 = .ok (.lsub, 1) := by decide +kernel
set_option maxRecDepth 20000 in
theorem dX6_laysPart_144 : decode cX6_laysPart 144 = .ok (.lload 4, 2) := by decide +kernel
set_option maxRecDepth 20000 in
theorem dX6_laysPart_146 : decode cX6_laysPart 146 = .ok (.invokevirtual 351, 3) := by decide +kernel
set_option maxRecDepth 20000 in
theorem dX6_laysPart_149 : decode cX6_laysPart 149 = .ok (.iinc 3 1, 3) := by decide +kernel
set_option maxRecDepth 20000 in
theorem dX6_laysPart_152 : decode cX6_laysPart 152 = .ok (.goto (-81), 3) := by decide +kernel
set_option maxRecDepth 20000 in
theorem dX6_laysPart_155 : decode cX6_laysPart 155 = .ok (.return_, 1) := by decide +kernel
set_option maxRecDepth 20000 in
theorem dX6_part_0 : decode cX6_part 0 = .ok (.aload_n 0, 1) := by decide +kernel
set_option maxRecDepth 20000 in
theorem dX6_part_1 : decode cX6_part 1 = .ok (.iload_n 1, 1) := by decide +kernel
set_option maxRecDepth 20000 in
theorem dX6_part_2 : decode cX6_part 2 = .ok (.invokevirtual 266, 3) := by decide +kernel
set_option maxRecDepth 20000 in
theorem dX6_part_5 : decode cX6_part 5 = .ok (.ifCond .eq 35, 3) := by decide +kernel
set_option maxRecDepth 20000 in
theorem dX6_part_8 : decode cX6_part 8 = .ok (.iload_n 2, 1) := by decide +kernel
set_option maxRecDepth 20000 in
theorem dX6_part_9 : decode cX6_part 9 = .ok (.i2l, 1) := by decide +kernel
set_option maxRecDepth 20000 in
theorem dX6_part_10 : decode cX6_part 10 = .ok (.lconst 0, 1) := by decide +kernel
set_option maxRecDepth 20000 in
theorem dX6_part_11 : decode cX6_part 11 = .ok (.ldc2_w 242, 3) := by decide +kernel
set_option maxRecDepth 20000 in
theorem dX6_part_14 : decode cX6_part 14 = .ok (.invokestatic 150, 3) := by decide +kernel
set_option maxRecDepth 20000 in
theorem dX6_part_17 : decode cX6_part 17 = .ok (.ifCond .eq 23, 3) := by decide +kernel
set_option maxRecDepth 20000 in
theorem dX6_part_20 : decode cX6_part 20 = .ok (.aload_n 0, 1) := by decide +kernel
set_option maxRecDepth 20000 in
theorem dX6_part_21 : decode cX6_part 21 = .ok (.iconst 1, 1) := by decide +kernel
set_option maxRecDepth 20000 in
theorem dX6_part_22 : decode cX6_part 22 = .ok (.iload_n 3, 1) := by decide +kernel
set_option maxRecDepth 20000 in
theorem dX6_part_23 : decode cX6_part 23 = .ok (.invokevirtual 247, 3) := by decide +kernel
set_option maxRecDepth 20000 in
theorem dX6_part_26 : decode cX6_part 26 = .ok (.ifCond .eq 14, 3) := by decide +kernel
set_option maxRecDepth 20000 in
theorem dX6_part_29 : decode cX6_part 29 = .ok (.iload 4, 2) := by decide +kernel
set_option maxRecDepth 20000 in
theorem dX6_part_31 : decode cX6_part 31 = .ok (.i2l, 1) := by decide +kernel
set_option maxRecDepth 20000 in
theorem dX6_part_32 : decode cX6_part 32 = .ok (.lconst 0, 1) := by decide +kernel
set_option maxRecDepth 20000 in
theorem dX6_part_33 : decode cX6_part 33 = .ok (.lconst 1, 1) := by decide +kernel
set_option maxRecDepth 20000 in
theorem dX6_part_34 : decode cX6_part 34 = .ok (.invokestatic 150, 3) := by decide +kernel
set_option maxRecDepth 20000 in
theorem dX6_part_37 : decode cX6_part 37 = .ok (.ifCond .ne 7, 3) := by decide +kernel
set_option maxRecDepth 20000 in
theorem dX6_part_40 : decode cX6_part 40 = .ok (.ldc2_w 358, 3) := by decide +kernel
set_option maxRecDepth 20000 in
theorem dX6_part_43 : decode cX6_part 43 = .ok (.lreturn, 1) := by decide +kernel
set_option maxRecDepth 20000 in
theorem dX6_part_44 : decode cX6_part 44 = .ok (.aload_n 0, 1) := by decide +kernel
set_option maxRecDepth 20000 in
theorem dX6_part_45 : decode cX6_part 45 = .ok (.iload_n 1, 1) := by decide +kernel
set_option maxRecDepth 20000 in
theorem dX6_part_46 : decode cX6_part 46 = .ok (.iload_n 2, 1) := by decide +kernel
set_option maxRecDepth 20000 in
theorem dX6_part_47 : decode cX6_part 47 = .ok (.invokevirtual 360, 3) := by decide +kernel
set_option maxRecDepth 20000 in
theorem dX6_part_50 : decode cX6_part 50 = .ok (.iload 4, 2) := by decide +kernel
set_option maxRecDepth 20000 in
theorem dX6_part_52 : decode cX6_part 52 = .ok (.ifCond .ne 12, 3) := by decide +kernel
set_option maxRecDepth 20000 in
theorem dX6_part_55 : decode cX6_part 55 = .ok (.aload_n 0, 1) := by decide +kernel
set_option maxRecDepth 20000 in
theorem dX6_part_56 : decode cX6_part 56 = .ok (.getfield 36, 3) := by decide +kernel
set_option maxRecDepth 20000 in
theorem dX6_part_59 : decode cX6_part 59 = .ok (.iload_n 3, 1) := by decide +kernel
set_option maxRecDepth 20000 in
theorem dX6_part_60 : decode cX6_part 60 = .ok (.laload, 1) := by decide +kernel
set_option maxRecDepth 20000 in
theorem dX6_part_61 : decode cX6_part 61 = .ok (.goto 9, 3) := by decide +kernel
set_option maxRecDepth 20000 in
theorem dX6_part_64 : decode cX6_part 64 = .ok (.aload_n 0, 1) := by decide +kernel
set_option maxRecDepth 20000 in
theorem dX6_part_65 : decode cX6_part 65 = .ok (.getfield 39, 3) := by decide +kernel
set_option maxRecDepth 20000 in
theorem dX6_part_68 : decode cX6_part 68 = .ok (.iload_n 3, 1) := by decide +kernel
set_option maxRecDepth 20000 in
theorem dX6_part_69 : decode cX6_part 69 = .ok (.laload, 1) := by decide +kernel
set_option maxRecDepth 20000 in
theorem dX6_part_70 : decode cX6_part 70 = .ok (.lreturn, 1) := by decide +kernel
set_option maxRecDepth 20000 in
theorem dX6_measures_0 : decode cX6_measures 0 = .ok (.iload_n 2, 1) := by decide +kernel
set_option maxRecDepth 20000 in
theorem dX6_measures_1 : decode cX6_measures 1 = .ok (.iconst 3, 1) := by decide +kernel
set_option maxRecDepth 20000 in
theorem dX6_measures_2 : decode cX6_measures 2 = .ok (.if_icmp .ge 9, 3) := by decide +kernel
set_option maxRecDepth 20000 in
theorem dX6_measures_5 : decode cX6_measures 5 = .ok (.aload_n 0, 1) := by decide +kernel
set_option maxRecDepth 20000 in
theorem dX6_measures_6 : decode cX6_measures 6 = .ok (.iload_n 1, 1) := by decide +kernel
set_option maxRecDepth 20000 in
theorem dX6_measures_7 : decode cX6_measures 7 = .ok (.iload_n 2, 1) := by decide +kernel
set_option maxRecDepth 20000 in
theorem dX6_measures_8 : decode cX6_measures 8 = .ok (.invokevirtual 360, 3) := by decide +kernel
set_option maxRecDepth 20000 in
theorem dX6_measures_11 : decode cX6_measures 11 = .ok (.aload_n 0, 1) := by decide +kernel
set_option maxRecDepth 20000 in
theorem dX6_measures_12 : decode cX6_measures 12 = .ok (.lconst 0, 1) := by decide +kernel
set_option maxRecDepth 20000 in
theorem dX6_measures_13 : decode cX6_measures 13 = .ok (.putfield 363, 3) := by decide +kernel
set_option maxRecDepth 20000 in
theorem dX6_measures_16 : decode cX6_measures 16 = .ok (.aload_n 0, 1) := by decide +kernel
set_option maxRecDepth 20000 in
theorem dX6_measures_17 : decode cX6_measures 17 = .ok (.lconst 1, 1) := by decide +kernel
set_option maxRecDepth 20000 in
theorem dX6_measures_18 : decode cX6_measures 18 = .ok (.putfield 366, 3) := by decide +kernel
set_option maxRecDepth 20000 in
theorem dX6_measures_21 : decode cX6_measures 21 = .ok (.iconst 0, 1) := by decide +kernel
set_option maxRecDepth 20000 in
theorem dX6_measures_22 : decode cX6_measures 22 = .ok (.istore_n 3, 1) := by decide +kernel
set_option maxRecDepth 20000 in
theorem dX6_measures_23 : decode cX6_measures 23 = .ok (.iload_n 3, 1) := by decide +kernel
set_option maxRecDepth 20000 in
theorem dX6_measures_24 : decode cX6_measures 24 = .ok (.aload_n 0, 1) := by decide +kernel
set_option maxRecDepth 20000 in
theorem dX6_measures_25 : decode cX6_measures 25 = .ok (.getfield 7, 3) := by decide +kernel
set_option maxRecDepth 20000 in
theorem dX6_measures_28 : decode cX6_measures 28 = .ok (.iconst 1, 1) := by decide +kernel
set_option maxRecDepth 20000 in
theorem dX6_measures_29 : decode cX6_measures 29 = .ok (.iaload, 1) := by decide +kernel
set_option maxRecDepth 20000 in
theorem dX6_measures_30 : decode cX6_measures 30 = .ok (.if_icmp .ge 165, 3) := by decide +kernel
set_option maxRecDepth 20000 in
theorem dX6_measures_33 : decode cX6_measures 33 = .ok (.aload_n 0, 1) := by decide +kernel
set_option maxRecDepth 20000 in
theorem dX6_measures_34 : decode cX6_measures 34 = .ok (.getfield 7, 3) := by decide +kernel
set_option maxRecDepth 20000 in
theorem dX6_measures_37 : decode cX6_measures 37 = .ok (.bipush 45, 2) := by decide +kernel
set_option maxRecDepth 20000 in
theorem dX6_measures_39 : decode cX6_measures 39 = .ok (.bipush 6, 2) := by decide +kernel
set_option maxRecDepth 20000 in
theorem dX6_measures_41 : decode cX6_measures 41 = .ok (.iload_n 1, 1) := by decide +kernel
set_option maxRecDepth 20000 in
theorem dX6_measures_42 : decode cX6_measures 42 = .ok (.imul, 1) := by decide +kernel
set_option maxRecDepth 20000 in
theorem dX6_measures_43 : decode cX6_measures 43 = .ok (.iadd, 1) := by decide +kernel
set_option maxRecDepth 20000 in
theorem dX6_measures_44 : decode cX6_measures 44 = .ok (.iload_n 3, 1) := by decide +kernel
set_option maxRecDepth 20000 in
theorem dX6_measures_45 : decode cX6_measures 45 = .ok (.iadd, 1) := by decide +kernel
set_option maxRecDepth 20000 in
theorem dX6_measures_46 : decode cX6_measures 46 = .ok (.iaload, 1) := by decide +kernel
set_option maxRecDepth 20000 in
theorem dX6_measures_47 : decode cX6_measures 47 = .ok (.istore 4, 2) := by decide +kernel
set_option maxRecDepth 20000 in
theorem dX6_measures_49 : decode cX6_measures 49 = .ok (.iload_n 2, 1) := by decide +kernel
set_option maxRecDepth 20000 in
theorem dX6_measures_50 : decode cX6_measures 50 = .ok (.iconst 3, 1) := by decide +kernel
set_option maxRecDepth 20000 in
theorem dX6_measures_51 : decode cX6_measures 51 = .ok (.if_icmp .ne 13, 3) := by decide +kernel
set_option maxRecDepth 20000 in
theorem dX6_measures_54 : decode cX6_measures 54 = .ok (.iload 4, 2) := by decide +kernel
set_option maxRecDepth 20000 in
theorem dX6_measures_56 : decode cX6_measures 56 = .ok (.i2l, 1) := by decide +kernel
set_option maxRecDepth 20000 in
theorem dX6_measures_57 : decode cX6_measures 57 = .ok (.iload 4, 2) := by decide +kernel
set_option maxRecDepth 20000 in
theorem dX6_measures_59 : decode cX6_measures 59 = .ok (.i2l, 1) := by decide +kernel
set_option maxRecDepth 20000 in
theorem dX6_measures_60 : decode cX6_measures 60 = .ok (.lmul, 1) := by decide +kernel
set_option maxRecDepth 20000 in
theorem dX6_measures_61 : decode cX6_measures 61 = .ok (.goto 13, 3) := by decide +kernel
set_option maxRecDepth 20000 in
theorem dX6_measures_64 : decode cX6_measures 64 = .ok (.iload 4, 2) := by decide +kernel
set_option maxRecDepth 20000 in
theorem dX6_measures_66 : decode cX6_measures 66 = .ok (.i2l, 1) := by decide +kernel
set_option maxRecDepth 20000 in
theorem dX6_measures_67 : decode cX6_measures 67 = .ok (.aload_n 0, 1) := by decide +kernel
set_option maxRecDepth 20000 in
theorem dX6_measures_68 : decode cX6_measures 68 = .ok (.getfield 36, 3) := by decide +kernel
set_option maxRecDepth 20000 in
theorem dX6_measures_71 : decode cX6_measures 71 = .ok (.iload_n 3, 1) := by decide +kernel
set_option maxRecDepth 20000 in
theorem dX6_measures_72 : decode cX6_measures 72 = .ok (.laload, 1) := by decide +kernel
set_option maxRecDepth 20000 in
theorem dX6_measures_73 : decode cX6_measures 73 = .ok (.lmul, 1) := by decide +kernel
set_option maxRecDepth 20000 in
theorem dX6_measures_74 : decode cX6_measures 74 = .ok (.lstore 5, 2) := by decide +kernel
set_option maxRecDepth 20000 in
theorem dX6_measures_76 : decode cX6_measures 76 = .ok (.iload_n 2, 1) := by decide +kernel
set_option maxRecDepth 20000 in
theorem dX6_measures_77 : decode cX6_measures 77 = .ok (.iconst 3, 1) := by decide +kernel
set_option maxRecDepth 20000 in
theorem dX6_measures_78 : decode cX6_measures 78 = .ok (.if_icmp .ne 7, 3) := by decide +kernel
set_option maxRecDepth 20000 in
theorem dX6_measures_81 : decode cX6_measures 81 = .ok (.lconst 1, 1) := by decide +kernel
set_option maxRecDepth 20000 in
theorem dX6_measures_82 : decode cX6_measures 82 = .ok (.goto 9, 3) := by decide +kernel
set_option maxRecDepth 20000 in
theorem dX6_measures_85 : decode cX6_measures 85 = .ok (.aload_n 0, 1) := by decide +kernel
set_option maxRecDepth 20000 in
theorem dX6_measures_86 : decode cX6_measures 86 = .ok (.getfield 39, 3) := by decide +kernel
set_option maxRecDepth 20000 in
theorem dX6_measures_89 : decode cX6_measures 89 = .ok (.iload_n 3, 1) := by decide +kernel
set_option maxRecDepth 20000 in
theorem dX6_measures_90 : decode cX6_measures 90 = .ok (.laload, 1) := by decide +kernel
set_option maxRecDepth 20000 in
theorem dX6_measures_91 : decode cX6_measures 91 = .ok (.aload_n 0, 1) := by decide +kernel
set_option maxRecDepth 20000 in
theorem dX6_measures_92 : decode cX6_measures 92 = .ok (.getfield 7, 3) := by decide +kernel
set_option maxRecDepth 20000 in
theorem dX6_measures_95 : decode cX6_measures 95 = .ok (.iconst 1, 1) := by decide +kernel
set_option maxRecDepth 20000 in
theorem dX6_measures_96 : decode cX6_measures 96 = .ok (.iload_n 3, 1) := by decide +kernel
set_option maxRecDepth 20000 in
theorem dX6_measures_97 : decode cX6_measures 97 = .ok (.invokestatic 81, 3) := by decide +kernel
set_option maxRecDepth 20000 in
theorem dX6_measures_100 : decode cX6_measures 100 = .ok (.i2l, 1) := by decide +kernel
set_option maxRecDepth 20000 in
theorem dX6_measures_101 : decode cX6_measures 101 = .ok (.lmul, 1) := by decide +kernel
set_option maxRecDepth 20000 in
theorem dX6_measures_102 : decode cX6_measures 102 = .ok (.lstore 7, 2) := by decide +kernel
set_option maxRecDepth 20000 in
theorem dX6_measures_104 : decode cX6_measures 104 = .ok (.aload_n 0, 1) := by decide +kernel
set_option maxRecDepth 20000 in
theorem dX6_measures_105 : decode cX6_measures 105 = .ok (.getfield 366, 3) := by decide +kernel
set_option maxRecDepth 20000 in
theorem dX6_measures_108 : decode cX6_measures 108 = .ok (.lload 7, 2) := by decide +kernel
set_option maxRecDepth 20000 in
theorem dX6_measures_110 : decode cX6_measures 110 = .ok (.invokestatic 117, 3) := by decide +kernel
set_option maxRecDepth 20000 in
theorem dX6_measures_113 : decode cX6_measures 113 = .ok (.lstore 9, 2) := by decide +kernel
set_option maxRecDepth 20000 in
theorem dX6_measures_115 : decode cX6_measures 115 = .ok (.aload_n 0, 1) := by decide +kernel
set_option maxRecDepth 20000 in
theorem dX6_measures_116 : decode cX6_measures 116 = .ok (.aload_n 0, 1) := by decide +kernel
set_option maxRecDepth 20000 in
theorem dX6_measures_117 : decode cX6_measures 117 = .ok (.getfield 363, 3) := by decide +kernel
set_option maxRecDepth 20000 in
theorem dX6_measures_120 : decode cX6_measures 120 = .ok (.lload 7, 2) := by decide +kernel
set_option maxRecDepth 20000 in
theorem dX6_measures_122 : decode cX6_measures 122 = .ok (.lload 9, 2) := by decide +kernel
set_option maxRecDepth 20000 in
theorem dX6_measures_124 : decode cX6_measures 124 = .ok (.ldiv, 1) := by decide +kernel
set_option maxRecDepth 20000 in
theorem dX6_measures_125 : decode cX6_measures 125 = .ok (.lmul, 1) := by decide +kernel
set_option maxRecDepth 20000 in
theorem dX6_measures_126 : decode cX6_measures 126 = .ok (.lload 5, 2) := by decide +kernel
set_option maxRecDepth 20000 in
theorem dX6_measures_128 : decode cX6_measures 128 = .ok (.aload_n 0, 1) := by decide +kernel
set_option maxRecDepth 20000 in
theorem dX6_measures_129 : decode cX6_measures 129 = .ok (.getfield 366, 3) := by decide +kernel
set_option maxRecDepth 20000 in
theorem dX6_measures_132 : decode cX6_measures 132 = .ok (.lload 9, 2) := by decide +kernel
set_option maxRecDepth 20000 in
theorem dX6_measures_134 : decode cX6_measures 134 = .ok (.ldiv, 1) := by decide +kernel
set_option maxRecDepth 20000 in
theorem dX6_measures_135 : decode cX6_measures 135 = .ok (.lmul, 1) := by decide +kernel
set_option maxRecDepth 20000 in
theorem dX6_measures_136 : decode cX6_measures 136 = .ok (.ladd, 1) := by decide +kernel
set_option maxRecDepth 20000 in
theorem dX6_measures_137 : decode cX6_measures 137 = .ok (.putfield 363, 3) := by decide +kernel
set_option maxRecDepth 20000 in
theorem dX6_measures_140 : decode cX6_measures 140 = .ok (.aload_n 0, 1) := by decide +kernel
set_option maxRecDepth 20000 in
theorem dX6_measures_141 : decode cX6_measures 141 = .ok (.aload_n 0, 1) := by decide +kernel
set_option maxRecDepth 20000 in
theorem dX6_measures_142 : decode cX6_measures 142 = .ok (.getfield 366, 3) := by decide +kernel
set_option maxRecDepth 20000 in
theorem dX6_measures_145 : decode cX6_measures 145 = .ok (.lload 9, 2) := by decide +kernel
set_option maxRecDepth 20000 in
theorem dX6_measures_147 : decode cX6_measures 147 = .ok (.ldiv, 1) := by decide +kernel
set_option maxRecDepth 20000 in
theorem dX6_measures_148 : decode cX6_measures 148 = .ok (.lload 7, 2) := by decide +kernel
set_option maxRecDepth 20000 in
theorem dX6_measures_150 : decode cX6_measures 150 = .ok (.lmul, 1) := by decide +kernel
set_option maxRecDepth 20000 in
theorem dX6_measures_151 : decode cX6_measures 151 = .ok (.putfield 366, 3) := by decide +kernel
set_option maxRecDepth 20000 in
theorem dX6_measures_154 : decode cX6_measures 154 = .ok (.aload_n 0, 1) := by decide +kernel
set_option maxRecDepth 20000 in
theorem dX6_measures_155 : decode cX6_measures 155 = .ok (.getfield 363, 3) := by decide +kernel
set_option maxRecDepth 20000 in
theorem dX6_measures_158 : decode cX6_measures 158 = .ok (.aload_n 0, 1) := by decide +kernel
set_option maxRecDepth 20000 in
theorem dX6_measures_159 : decode cX6_measures 159 = .ok (.getfield 366, 3) := by decide +kernel
set_option maxRecDepth 20000 in
theorem dX6_measures_162 : decode cX6_measures 162 = .ok (.invokestatic 117, 3) := by decide +kernel
set_option maxRecDepth 20000 in
theorem dX6_measures_165 : decode cX6_measures 165 = .ok (.lstore 9, 2) := by decide +kernel
set_option maxRecDepth 20000 in
theorem dX6_measures_167 : decode cX6_measures 167 = .ok (.aload_n 0, 1) := by decide +kernel
set_option maxRecDepth 20000 in
theorem dX6_measures_168 : decode cX6_measures 168 = .ok (.dup, 1) := by decide +kernel
set_option maxRecDepth 20000 in
theorem dX6_measures_169 : decode cX6_measures 169 = .ok (.getfield 363, 3) := by decide +kernel
set_option maxRecDepth 20000 in
theorem dX6_measures_172 : decode cX6_measures 172 = .ok (.lload 9, 2) := by decide +kernel
set_option maxRecDepth 20000 in
theorem dX6_measures_174 : decode cX6_measures 174 = .ok (.ldiv, 1) := by decide +kernel
set_option maxRecDepth 20000 in
theorem dX6_measures_175 : decode cX6_measures 175 = .ok (.putfield 363, 3) := by decide +kernel
set_option maxRecDepth 20000 in
theorem dX6_measures_178 : decode cX6_measures 178 = .ok (.aload_n 0, 1) := by decide +kernel
set_option maxRecDepth 20000 in
theorem dX6_measures_179 : decode cX6_measures 179 = .ok (.dup, 1) := by decide +kernel
set_option maxRecDepth 20000 in
theorem dX6_measures_180 : decode cX6_measures 180 = .ok (.getfield 366, 3) := by decide +kernel
set_option maxRecDepth 20000 in
theorem dX6_measures_183 : decode cX6_measures 183 = .ok (.lload 9, 2) := by decide +kernel
set_option maxRecDepth 20000 in
theorem dX6_measures_185 : decode cX6_measures 185 = .ok (.ldiv, 1) := by decide +kernel
set_option maxRecDepth 20000 in
theorem dX6_measures_186 : decode cX6_measures 186 = .ok (.putfield 366, 3) := by decide +kernel
set_option maxRecDepth 20000 in
theorem dX6_measures_189 : decode cX6_measures 189 = .ok (.iinc 3 1, 3) := by decide +kernel
set_option maxRecDepth 20000 in
theorem dX6_measures_192 : decode cX6_measures 192 = .ok (.goto (-169), 3) := by decide +kernel
set_option maxRecDepth 20000 in
theorem dX6_measures_195 : decode cX6_measures 195 = .ok (.return_, 1) := by decide +kernel
set_option maxRecDepth 20000 in
theorem dX6_length_0 : decode cX6_length 0 = .ok (.aload_n 0, 1) := by decide +kernel
set_option maxRecDepth 20000 in
theorem dX6_length_1 : decode cX6_length 1 = .ok (.invokevirtual 244, 3) := by decide +kernel
set_option maxRecDepth 20000 in
theorem dX6_length_4 : decode cX6_length 4 = .ok (.ifCond .ne 7, 3) := by decide +kernel
set_option maxRecDepth 20000 in
theorem dX6_length_7 : decode cX6_length 7 = .ok (.ldc2_w 369, 3) := by decide +kernel
set_option maxRecDepth 20000 in
theorem dX6_length_10 : decode cX6_length 10 = .ok (.lreturn, 1) := by decide +kernel
set_option maxRecDepth 20000 in
theorem dX6_length_11 : decode cX6_length 11 = .ok (.iload_n 1, 1) := by decide +kernel
set_option maxRecDepth 20000 in
theorem dX6_length_12 : decode cX6_length 12 = .ok (.i2l, 1) := by decide +kernel
set_option maxRecDepth 20000 in
theorem dX6_length_13 : decode cX6_length 13 = .ok (.lconst 0, 1) := by decide +kernel
set_option maxRecDepth 20000 in
theorem dX6_length_14 : decode cX6_length 14 = .ok (.ldc2_w 242, 3) := by decide +kernel
set_option maxRecDepth 20000 in
theorem dX6_length_17 : decode cX6_length 17 = .ok (.invokestatic 150, 3) := by decide +kernel
set_option maxRecDepth 20000 in
theorem dX6_length_20 : decode cX6_length 20 = .ok (.ifCond .eq 25, 3) := by decide +kernel
set_option maxRecDepth 20000 in
theorem dX6_length_23 : decode cX6_length 23 = .ok (.iload_n 2, 1) := by decide +kernel
set_option maxRecDepth 20000 in
theorem dX6_length_24 : decode cX6_length 24 = .ok (.i2l, 1) := by decide +kernel
set_option maxRecDepth 20000 in
theorem dX6_length_25 : decode cX6_length 25 = .ok (.lconst 0, 1) := by decide +kernel
set_option maxRecDepth 20000 in
theorem dX6_length_26 : decode cX6_length 26 = .ok (.ldc2_w 250, 3) := by decide +kernel
set_option maxRecDepth 20000 in
theorem dX6_length_29 : decode cX6_length 29 = .ok (.invokestatic 150, 3) := by decide +kernel
set_option maxRecDepth 20000 in
theorem dX6_length_32 : decode cX6_length 32 = .ok (.ifCond .eq 13, 3) := by decide +kernel
set_option maxRecDepth 20000 in
theorem dX6_length_35 : decode cX6_length 35 = .ok (.iload_n 3, 1) := by decide +kernel
set_option maxRecDepth 20000 in
theorem dX6_length_36 : decode cX6_length 36 = .ok (.i2l, 1) := by decide +kernel
set_option maxRecDepth 20000 in
theorem dX6_length_37 : decode cX6_length 37 = .ok (.lconst 0, 1) := by decide +kernel
set_option maxRecDepth 20000 in
theorem dX6_length_38 : decode cX6_length 38 = .ok (.lconst 1, 1) := by decide +kernel
set_option maxRecDepth 20000 in
theorem dX6_length_39 : decode cX6_length 39 = .ok (.invokestatic 150, 3) := by decide +kernel
set_option maxRecDepth 20000 in
theorem dX6_length_42 : decode cX6_length 42 = .ok (.ifCond .ne 7, 3) := by decide +kernel
set_option maxRecDepth 20000 in
theorem dX6_length_45 : decode cX6_length 45 = .ok (.ldc2_w 358, 3) := by decide +kernel
set_option maxRecDepth 20000 in
theorem dX6_length_48 : decode cX6_length 48 = .ok (.lreturn, 1) := by decide +kernel
set_option maxRecDepth 20000 in
theorem dX6_length_49 : decode cX6_length 49 = .ok (.aload_n 0, 1) := by decide +kernel
set_option maxRecDepth 20000 in
theorem dX6_length_50 : decode cX6_length 50 = .ok (.iload_n 1, 1) := by decide +kernel
set_option maxRecDepth 20000 in
theorem dX6_length_51 : decode cX6_length 51 = .ok (.iload_n 2, 1) := by decide +kernel
set_option maxRecDepth 20000 in
theorem dX6_length_52 : decode cX6_length 52 = .ok (.invokevirtual 371, 3) := by decide +kernel
set_option maxRecDepth 20000 in
theorem dX6_length_55 : decode cX6_length 55 = .ok (.iload_n 3, 1) := by decide +kernel
set_option maxRecDepth 20000 in
theorem dX6_length_56 : decode cX6_length 56 = .ok (.ifCond .ne 10, 3) := by decide +kernel
set_option maxRecDepth 20000 in
theorem dX6_length_59 : decode cX6_length 59 = .ok (.aload_n 0, 1) := by decide +kernel
set_option maxRecDepth 20000 in
theorem dX6_length_60 : decode cX6_length 60 = .ok (.getfield 363, 3) := by decide +kernel
set_option maxRecDepth 20000 in
theorem dX6_length_63 : decode cX6_length 63 = .ok (.goto 7, 3) := by decide +kernel
set_option maxRecDepth 20000 in
theorem dX6_length_66 : decode cX6_length 66 = .ok (.aload_n 0, 1) := by decide +kernel
set_option maxRecDepth 20000 in
theorem dX6_length_67 : decode cX6_length 67 = .ok (.getfield 366, 3) := by decide +kernel
set_option maxRecDepth 20000 in
theorem dX6_length_70 : decode cX6_length 70 = .ok (.lreturn, 1) := by decide +kernel
set_option maxRecDepth 20000 in
theorem dX6_share_0 : decode cX6_share 0 = .ok (.aload_n 0, 1) := by decide +kernel
set_option maxRecDepth 20000 in
theorem dX6_share_1 : decode cX6_share 1 = .ok (.invokevirtual 244, 3) := by decide +kernel
set_option maxRecDepth 20000 in
theorem dX6_share_4 : decode cX6_share 4 = .ok (.ifCond .ne 6, 3) := by decide +kernel
set_option maxRecDepth 20000 in
theorem dX6_share_7 : decode cX6_share 7 = .ok (.ldc 241, 2) := by decide +kernel
set_option maxRecDepth 20000 in
theorem dX6_share_9 : decode cX6_share 9 = .ok (.ireturn, 1) := by decide +kernel
set_option maxRecDepth 20000 in
theorem dX6_share_10 : decode cX6_share 10 = .ok (.iload_n 1, 1) := by decide +kernel
set_option maxRecDepth 20000 in
theorem dX6_share_11 : decode cX6_share 11 = .ok (.i2l, 1) := by decide +kernel
set_option maxRecDepth 20000 in
theorem dX6_share_12 : decode cX6_share 12 = .ok (.lconst 0, 1) := by decide +kernel
set_option maxRecDepth 20000 in
theorem dX6_share_13 : decode cX6_share 13 = .ok (.ldc2_w 242, 3) := by decide +kernel
set_option maxRecDepth 20000 in
theorem dX6_share_16 : decode cX6_share 16 = .ok (.invokestatic 150, 3) := by decide +kernel
set_option maxRecDepth 20000 in
theorem dX6_share_19 : decode cX6_share 19 = .ok (.ifCond .eq 15, 3) := by decide +kernel
set_option maxRecDepth 20000 in
theorem dX6_share_22 : decode cX6_share 22 = .ok (.iload_n 2, 1) := by decide +kernel
set_option maxRecDepth 20000 in
theorem dX6_share_23 : decode cX6_share 23 = .ok (.i2l, 1) := by decide +kernel
set_option maxRecDepth 20000 in
theorem dX6_share_24 : decode cX6_share 24 = .ok (.lconst 0, 1) := by decide +kernel
set_option maxRecDepth 20000 in
theorem dX6_share_25 : decode cX6_share 25 = .ok (.ldc2_w 242, 3) := by decide +kernel
set_option maxRecDepth 20000 in
theorem dX6_share_28 : decode cX6_share 28 = .ok (.invokestatic 150, 3) := by decide +kernel
set_option maxRecDepth 20000 in
theorem dX6_share_31 : decode cX6_share 31 = .ok (.ifCond .ne 6, 3) := by decide +kernel
set_option maxRecDepth 20000 in
theorem dX6_share_34 : decode cX6_share 34 = .ok (.ldc 218, 2) := by decide +kernel
set_option maxRecDepth 20000 in
theorem dX6_share_36 : decode cX6_share 36 = .ok (.ireturn, 1) := by decide +kernel
set_option maxRecDepth 20000 in
theorem dX6_share_37 : decode cX6_share 37 = .ok (.aload_n 0, 1) := by decide +kernel
set_option maxRecDepth 20000 in
theorem dX6_share_38 : decode cX6_share 38 = .ok (.iload_n 1, 1) := by decide +kernel
set_option maxRecDepth 20000 in
theorem dX6_share_39 : decode cX6_share 39 = .ok (.invokevirtual 273, 3) := by decide +kernel
set_option maxRecDepth 20000 in
theorem dX6_share_42 : decode cX6_share 42 = .ok (.ifCond .ne 6, 3) := by decide +kernel
set_option maxRecDepth 20000 in
theorem dX6_share_45 : decode cX6_share 45 = .ok (.ldc 241, 2) := by decide +kernel
set_option maxRecDepth 20000 in
theorem dX6_share_47 : decode cX6_share 47 = .ok (.ireturn, 1) := by decide +kernel
set_option maxRecDepth 20000 in
theorem dX6_share_48 : decode cX6_share 48 = .ok (.aload_n 0, 1) := by decide +kernel
set_option maxRecDepth 20000 in
theorem dX6_share_49 : decode cX6_share 49 = .ok (.iload_n 1, 1) := by decide +kernel
set_option maxRecDepth 20000 in
theorem dX6_share_50 : decode cX6_share 50 = .ok (.iconst 3, 1) := by decide +kernel
set_option maxRecDepth 20000 in
theorem dX6_share_51 : decode cX6_share 51 = .ok (.invokevirtual 371, 3) := by decide +kernel
set_option maxRecDepth 20000 in
theorem dX6_share_54 : decode cX6_share 54 = .ok (.aload_n 0, 1) := by decide +kernel
set_option maxRecDepth 20000 in
theorem dX6_share_55 : decode cX6_share 55 = .ok (.getfield 366, 3) := by decide +kernel
set_option maxRecDepth 20000 in
theorem dX6_share_58 : decode cX6_share 58 = .ok (.lstore_n 3, 1) := by decide +kernel
set_option maxRecDepth 20000 in
theorem dX6_share_59 : decode cX6_share 59 = .ok (.aload_n 0, 1) := by decide +kernel
set_option maxRecDepth 20000 in
theorem dX6_share_60 : decode cX6_share 60 = .ok (.getfield 363, 3) := by decide +kernel
set_option maxRecDepth 20000 in
theorem dX6_share_63 : decode cX6_share 63 = .ok (.lstore 5, 2) := by decide +kernel
set_option maxRecDepth 20000 in
theorem dX6_share_65 : decode cX6_share 65 = .ok (.aload_n 0, 1) := by decide +kernel
set_option maxRecDepth 20000 in
theorem dX6_share_66 : decode cX6_share 66 = .ok (.iload_n 1, 1) := by decide +kernel
set_option maxRecDepth 20000 in
theorem dX6_share_67 : decode cX6_share 67 = .ok (.iload_n 2, 1) := by decide +kernel
set_option maxRecDepth 20000 in
theorem dX6_share_68 : decode cX6_share 68 = .ok (.invokevirtual 371, 3) := by decide +kernel
set_option maxRecDepth 20000 in
theorem dX6_share_71 : decode cX6_share 71 = .ok (.aload_n 0, 1) := by decide +kernel
set_option maxRecDepth 20000 in
theorem dX6_share_72 : decode cX6_share 72 = .ok (.getfield 363, 3) := by decide +kernel
set_option maxRecDepth 20000 in
theorem dX6_share_75 : decode cX6_share 75 = .ok (.lload 5, 2) := by decide +kernel
set_option maxRecDepth 20000 in
theorem dX6_share_77 : decode cX6_share 77 = .ok (.invokestatic 117, 3) := by decide +kernel
set_option maxRecDepth 20000 in
theorem dX6_share_80 : decode cX6_share 80 = .ok (.lstore 7, 2) := by decide +kernel
set_option maxRecDepth 20000 in
theorem dX6_share_82 : decode cX6_share 82 = .ok (.lload_n 3, 1) := by decide +kernel
set_option maxRecDepth 20000 in
theorem dX6_share_83 : decode cX6_share 83 = .ok (.aload_n 0, 1) := by decide +kernel
set_option maxRecDepth 20000 in
theorem dX6_share_84 : decode cX6_share 84 = .ok (.getfield 366, 3) := by decide +kernel
set_option maxRecDepth 20000 in
theorem dX6_share_87 : decode cX6_share 87 = .ok (.invokestatic 117, 3) := by decide +kernel
set_option maxRecDepth 20000 in
theorem dX6_share_90 : decode cX6_share 90 = .ok (.lstore 9, 2) := by decide +kernel
set_option maxRecDepth 20000 in
theorem dX6_share_92 : decode cX6_share 92 = .ok (.aload_n 0, 1) := by decide +kernel
set_option maxRecDepth 20000 in
theorem dX6_share_93 : decode cX6_share 93 = .ok (.getfield 363, 3) := by decide +kernel
set_option maxRecDepth 20000 in
theorem dX6_share_96 : decode cX6_share 96 = .ok (.lload 7, 2) := by decide +kernel
set_option maxRecDepth 20000 in
theorem dX6_share_98 : decode cX6_share 98 = .ok (.ldiv, 1) := by decide +kernel
set_option maxRecDepth 20000 in
theorem dX6_share_99 : decode cX6_share 99 = .ok (.lload_n 3, 1) := by decide +kernel
set_option maxRecDepth 20000 in
theorem dX6_share_100 : decode cX6_share 100 = .ok (.lload 9, 2) := by decide +kernel
set_option maxRecDepth 20000 in
theorem dX6_share_102 : decode cX6_share 102 = .ok (.ldiv, 1) := by decide +kernel
set_option maxRecDepth 20000 in
theorem dX6_share_103 : decode cX6_share 103 = .ok (.lmul, 1) := by decide +kernel
set_option maxRecDepth 20000 in
theorem dX6_share_104 : decode cX6_share 104 = .ok (.lstore 11, 2) := by decide +kernel
set_option maxRecDepth 20000 in
theorem dX6_share_106 : decode cX6_share 106 = .ok (.lload 5, 2) := by decide +kernel
set_option maxRecDepth 20000 in
theorem dX6_share_108 : decode cX6_share 108 = .ok (.lload 7, 2) := by decide +kernel
set_option maxRecDepth 20000 in
theorem dX6_share_110 : decode cX6_share 110 = .ok (.ldiv, 1) := by decide +kernel
set_option maxRecDepth 20000 in
theorem dX6_share_111 : decode cX6_share 111 = .ok (.aload_n 0, 1) := by decide +kernel
set_option maxRecDepth 20000 in
theorem dX6_share_112 : decode cX6_share 112 = .ok (.getfield 366, 3) := by decide +kernel
set_option maxRecDepth 20000 in
theorem dX6_share_115 : decode cX6_share 115 = .ok (.lload 9, 2) := by decide +kernel
set_option maxRecDepth 20000 in
theorem dX6_share_117 : decode cX6_share 117 = .ok (.ldiv, 1) := by decide +kernel
set_option maxRecDepth 20000 in
theorem dX6_share_118 : decode cX6_share 118 = .ok (.lmul, 1) := by decide +kernel
set_option maxRecDepth 20000 in
theorem dX6_share_119 : decode cX6_share 119 = .ok (.lstore 13, 2) := by decide +kernel
set_option maxRecDepth 20000 in
theorem dX6_share_121 : decode cX6_share 121 = .ok (.lload 11, 2) := by decide +kernel
set_option maxRecDepth 20000 in
theorem dX6_share_123 : decode cX6_share 123 = .ok (.l2f, 1) := by decide +kernel
set_option maxRecDepth 20000 in
theorem dX6_share_124 : decode cX6_share 124 = .ok (.lload 13, 2) := by decide +kernel
set_option maxRecDepth 20000 in
theorem dX6_share_126 : decode cX6_share 126 = .ok (.l2f, 1) := by decide +kernel
set_option maxRecDepth 20000 in
theorem dX6_share_127 : decode cX6_share 127 = .ok (.fdiv, 1) := by decide +kernel
set_option maxRecDepth 20000 in
theorem dX6_share_128 : decode cX6_share 128 = .ok (.ldc_w 374, 3) := by decide +kernel
set_option maxRecDepth 20000 in
theorem dX6_share_131 : decode cX6_share 131 = .ok (.fmul, 1) := by decide +kernel
set_option maxRecDepth 20000 in
theorem dX6_share_132 : decode cX6_share 132 = .ok (.f2i, 1) := by decide +kernel
set_option maxRecDepth 20000 in
theorem dX6_share_133 : decode cX6_share 133 = .ok (.ireturn, 1) := by decide +kernel
set_option maxRecDepth 20000 in
theorem dX6_counts_0 : decode cX6_counts 0 = .ok (.lconst 1, 1) := by decide +kernel
set_option maxRecDepth 20000 in
theorem dX6_counts_1 : decode cX6_counts 1 = .ok (.lstore_n 3, 1) := by decide +kernel
set_option maxRecDepth 20000 in
theorem dX6_counts_2 : decode cX6_counts 2 = .ok (.iconst 0, 1) := by decide +kernel
set_option maxRecDepth 20000 in
theorem dX6_counts_3 : decode cX6_counts 3 = .ok (.istore 5, 2) := by decide +kernel
set_option maxRecDepth 20000 in
theorem dX6_counts_5 : decode cX6_counts 5 = .ok (.iload 5, 2) := by decide +kernel
set_option maxRecDepth 20000 in
theorem dX6_counts_7 : decode cX6_counts 7 = .ok (.aload_n 0, 1) := by decide +kernel
set_option maxRecDepth 20000 in
theorem dX6_counts_8 : decode cX6_counts 8 = .ok (.iload_n 1, 1) := by decide +kernel
set_option maxRecDepth 20000 in
theorem dX6_counts_9 : decode cX6_counts 9 = .ok (.invokevirtual 74, 3) := by decide +kernel
set_option maxRecDepth 20000 in
theorem dX6_counts_12 : decode cX6_counts 12 = .ok (.if_icmp .ge 36, 3) := by decide +kernel
set_option maxRecDepth 20000 in
theorem dX6_counts_15 : decode cX6_counts 15 = .ok (.lload_n 3, 1) := by decide +kernel
set_option maxRecDepth 20000 in
theorem dX6_counts_16 : decode cX6_counts 16 = .ok (.iload_n 2, 1) := by decide +kernel
set_option maxRecDepth 20000 in
theorem dX6_counts_17 : decode cX6_counts 17 = .ok (.iload 5, 2) := by decide +kernel
set_option maxRecDepth 20000 in
theorem dX6_counts_19 : decode cX6_counts 19 = .ok (.invokestatic 48, 3) := by decide +kernel
set_option maxRecDepth 20000 in
theorem dX6_counts_22 : decode cX6_counts 22 = .ok (.ifCond .eq 17, 3) := by decide +kernel
set_option maxRecDepth 20000 in
theorem dX6_counts_25 : decode cX6_counts 25 = .ok (.aload_n 0, 1) := by decide +kernel
set_option maxRecDepth 20000 in
theorem dX6_counts_26 : decode cX6_counts 26 = .ok (.getfield 7, 3) := by decide +kernel
set_option maxRecDepth 20000 in
theorem dX6_counts_29 : decode cX6_counts 29 = .ok (.iload_n 1, 1) := by decide +kernel
set_option maxRecDepth 20000 in
theorem dX6_counts_30 : decode cX6_counts 30 = .ok (.iload 5, 2) := by decide +kernel
set_option maxRecDepth 20000 in
theorem dX6_counts_32 : decode cX6_counts 32 = .ok (.invokestatic 81, 3) := by decide +kernel
set_option maxRecDepth 20000 in
theorem dX6_counts_35 : decode cX6_counts 35 = .ok (.i2l, 1) := by decide +kernel
set_option maxRecDepth 20000 in
theorem dX6_counts_36 : decode cX6_counts 36 = .ok (.goto 4, 3) := by decide +kernel
set_option maxRecDepth 20000 in
theorem dX6_counts_39 : decode cX6_counts 39 = .ok (.lconst 1, 1) := by decide +kernel
set_option maxRecDepth 20000 in
theorem dX6_counts_40 : decode cX6_counts 40 = .ok (.lmul, 1) := by decide +kernel
set_option maxRecDepth 20000 in
theorem dX6_counts_41 : decode cX6_counts 41 = .ok (.lstore_n 3, 1) := by decide +kernel
set_option maxRecDepth 20000 in
theorem dX6_counts_42 : decode cX6_counts 42 = .ok (.iinc 5 1, 3) := by decide +kernel
set_option maxRecDepth 20000 in
theorem dX6_counts_45 : decode cX6_counts 45 = .ok (.goto (-40), 3) := by decide +kernel
set_option maxRecDepth 20000 in
theorem dX6_counts_48 : decode cX6_counts 48 = .ok (.iload_n 1, 1) := by decide +kernel
set_option maxRecDepth 20000 in
theorem dX6_counts_49 : decode cX6_counts 49 = .ok (.iconst 2, 1) := by decide +kernel
set_option maxRecDepth 20000 in
theorem dX6_counts_50 : decode cX6_counts 50 = .ok (.if_icmp .ne 17, 3) := by decide +kernel
set_option maxRecDepth 20000 in
theorem dX6_counts_53 : decode cX6_counts 53 = .ok (.aload_n 0, 1) := by decide +kernel
set_option maxRecDepth 20000 in
theorem dX6_counts_54 : decode cX6_counts 54 = .ok (.iconst 2, 1) := by decide +kernel
set_option maxRecDepth 20000 in
theorem dX6_counts_55 : decode cX6_counts 55 = .ok (.iload_n 2, 1) := by decide +kernel
set_option maxRecDepth 20000 in
theorem dX6_counts_56 : decode cX6_counts 56 = .ok (.iload_n 2, 1) := by decide +kernel
set_option maxRecDepth 20000 in
theorem dX6_counts_57 : decode cX6_counts 57 = .ok (.invokestatic 99, 3) := by decide +kernel
set_option maxRecDepth 20000 in
theorem dX6_counts_60 : decode cX6_counts 60 = .ok (.iconst 0, 1) := by decide +kernel
set_option maxRecDepth 20000 in
theorem dX6_counts_61 : decode cX6_counts 61 = .ok (.invokevirtual 121, 3) := by decide +kernel
set_option maxRecDepth 20000 in
theorem dX6_counts_64 : decode cX6_counts 64 = .ok (.goto 4, 3) := by decide +kernel
set_option maxRecDepth 20000 in
theorem dX6_counts_67 : decode cX6_counts 67 = .ok (.lconst 1, 1) := by decide +kernel
set_option maxRecDepth 20000 in
theorem dX6_counts_68 : decode cX6_counts 68 = .ok (.lstore 5, 2) := by decide +kernel
set_option maxRecDepth 20000 in
theorem dX6_counts_70 : decode cX6_counts 70 = .ok (.lload_n 3, 1) := by decide +kernel
set_option maxRecDepth 20000 in
theorem dX6_counts_71 : decode cX6_counts 71 = .ok (.lload 5, 2) := by decide +kernel
set_option maxRecDepth 20000 in
theorem dX6_counts_73 : decode cX6_counts 73 = .ok (.lmul, 1) := by decide +kernel
set_option maxRecDepth 20000 in
theorem dX6_counts_74 : decode cX6_counts 74 = .ok (.lload 5, 2) := by decide +kernel
set_option maxRecDepth 20000 in
theorem dX6_counts_76 : decode cX6_counts 76 = .ok (.lmul, 1) := by decide +kernel
set_option maxRecDepth 20000 in
theorem dX6_counts_77 : decode cX6_counts 77 = .ok (.lreturn, 1) := by decide +kernel
set_option maxRecDepth 20000 in
theorem dX6_trees_0 : decode cX6_trees 0 = .ok (.aload_n 0, 1) := by decide +kernel
set_option maxRecDepth 20000 in
theorem dX6_trees_1 : decode cX6_trees 1 = .ok (.invokevirtual 244, 3) := by decide +kernel
set_option maxRecDepth 20000 in
theorem dX6_trees_4 : decode cX6_trees 4 = .ok (.ifCond .ne 7, 3) := by decide +kernel
set_option maxRecDepth 20000 in
theorem dX6_trees_7 : decode cX6_trees 7 = .ok (.ldc2_w 369, 3) := by decide +kernel
set_option maxRecDepth 20000 in
theorem dX6_trees_10 : decode cX6_trees 10 = .ok (.lreturn, 1) := by decide +kernel
set_option maxRecDepth 20000 in
theorem dX6_trees_11 : decode cX6_trees 11 = .ok (.iload_n 1, 1) := by decide +kernel
set_option maxRecDepth 20000 in
theorem dX6_trees_12 : decode cX6_trees 12 = .ok (.i2l, 1) := by decide +kernel
set_option maxRecDepth 20000 in
theorem dX6_trees_13 : decode cX6_trees 13 = .ok (.lconst 1, 1) := by decide +kernel
set_option maxRecDepth 20000 in
theorem dX6_trees_14 : decode cX6_trees 14 = .ok (.ldc2_w 242, 3) := by decide +kernel
set_option maxRecDepth 20000 in
theorem dX6_trees_17 : decode cX6_trees 17 = .ok (.invokestatic 150, 3) := by decide +kernel
set_option maxRecDepth 20000 in
theorem dX6_trees_20 : decode cX6_trees 20 = .ok (.ifCond .eq 13, 3) := by decide +kernel
set_option maxRecDepth 20000 in
theorem dX6_trees_23 : decode cX6_trees 23 = .ok (.iload_n 2, 1) := by decide +kernel
set_option maxRecDepth 20000 in
theorem dX6_trees_24 : decode cX6_trees 24 = .ok (.i2l, 1) := by decide +kernel
set_option maxRecDepth 20000 in
theorem dX6_trees_25 : decode cX6_trees 25 = .ok (.lconst 0, 1) := by decide +kernel
set_option maxRecDepth 20000 in
theorem dX6_trees_26 : decode cX6_trees 26 = .ok (.lconst 1, 1) := by decide +kernel
set_option maxRecDepth 20000 in
theorem dX6_trees_27 : decode cX6_trees 27 = .ok (.invokestatic 150, 3) := by decide +kernel
set_option maxRecDepth 20000 in
theorem dX6_trees_30 : decode cX6_trees 30 = .ok (.ifCond .ne 7, 3) := by decide +kernel
set_option maxRecDepth 20000 in
theorem dX6_trees_33 : decode cX6_trees 33 = .ok (.ldc2_w 358, 3) := by decide +kernel
set_option maxRecDepth 20000 in
theorem dX6_trees_36 : decode cX6_trees 36 = .ok (.lreturn, 1) := by decide +kernel
set_option maxRecDepth 20000 in
theorem dX6_trees_37 : decode cX6_trees 37 = .ok (.aload_n 0, 1) := by decide +kernel
set_option maxRecDepth 20000 in
theorem dX6_trees_38 : decode cX6_trees 38 = .ok (.iload_n 1, 1) := by decide +kernel
set_option maxRecDepth 20000 in
theorem dX6_trees_39 : decode cX6_trees 39 = .ok (.invokevirtual 303, 3) := by decide +kernel
set_option maxRecDepth 20000 in
theorem dX6_trees_42 : decode cX6_trees 42 = .ok (.istore_n 3, 1) := by decide +kernel
set_option maxRecDepth 20000 in
theorem dX6_trees_43 : decode cX6_trees 43 = .ok (.lconst 0, 1) := by decide +kernel
set_option maxRecDepth 20000 in
theorem dX6_trees_44 : decode cX6_trees 44 = .ok (.lstore 4, 2) := by decide +kernel
set_option maxRecDepth 20000 in
theorem dX6_trees_46 : decode cX6_trees 46 = .ok (.iconst 0, 1) := by decide +kernel
set_option maxRecDepth 20000 in
theorem dX6_trees_47 : decode cX6_trees 47 = .ok (.istore 6, 2) := by decide +kernel
set_option maxRecDepth 20000 in
theorem dX6_trees_49 : decode cX6_trees 49 = .ok (.iload 6, 2) := by decide +kernel
set_option maxRecDepth 20000 in
theorem dX6_trees_51 : decode cX6_trees 51 = .ok (.aload_n 0, 1) := by decide +kernel
set_option maxRecDepth 20000 in
theorem dX6_trees_52 : decode cX6_trees 52 = .ok (.iload_n 1, 1) := by decide +kernel
set_option maxRecDepth 20000 in
theorem dX6_trees_53 : decode cX6_trees 53 = .ok (.invokevirtual 124, 3) := by decide +kernel
set_option maxRecDepth 20000 in
theorem dX6_trees_56 : decode cX6_trees 56 = .ok (.if_icmp .gt 50, 3) := by decide +kernel
set_option maxRecDepth 20000 in
theorem dX6_trees_59 : decode cX6_trees 59 = .ok (.iload 6, 2) := by decide +kernel
set_option maxRecDepth 20000 in
theorem dX6_trees_61 : decode cX6_trees 61 = .ok (.invokestatic 99, 3) := by decide +kernel
set_option maxRecDepth 20000 in
theorem dX6_trees_64 : decode cX6_trees 64 = .ok (.iload_n 3, 1) := by decide +kernel
set_option maxRecDepth 20000 in
theorem dX6_trees_65 : decode cX6_trees 65 = .ok (.if_icmp .ne 35, 3) := by decide +kernel
set_option maxRecDepth 20000 in
theorem dX6_trees_68 : decode cX6_trees 68 = .ok (.aload_n 0, 1) := by decide +kernel
set_option maxRecDepth 20000 in
theorem dX6_trees_69 : decode cX6_trees 69 = .ok (.iload_n 1, 1) := by decide +kernel
set_option maxRecDepth 20000 in
theorem dX6_trees_70 : decode cX6_trees 70 = .ok (.iload 6, 2) := by decide +kernel
set_option maxRecDepth 20000 in
theorem dX6_trees_72 : decode cX6_trees 72 = .ok (.iconst 0, 1) := by decide +kernel
set_option maxRecDepth 20000 in
theorem dX6_trees_73 : decode cX6_trees 73 = .ok (.invokevirtual 127, 3) := by decide +kernel
set_option maxRecDepth 20000 in
theorem dX6_trees_76 : decode cX6_trees 76 = .ok (.iload_n 3, 1) := by decide +kernel
set_option maxRecDepth 20000 in
theorem dX6_trees_77 : decode cX6_trees 77 = .ok (.if_icmp .ne 23, 3) := by decide +kernel
set_option maxRecDepth 20000 in
theorem dX6_trees_80 : decode cX6_trees 80 = .ok (.lload 4, 2) := by decide +kernel
set_option maxRecDepth 20000 in
theorem dX6_trees_82 : decode cX6_trees 82 = .ok (.iload_n 2, 1) := by decide +kernel
set_option maxRecDepth 20000 in
theorem dX6_trees_83 : decode cX6_trees 83 = .ok (.ifCond .ne 7, 3) := by decide +kernel
set_option maxRecDepth 20000 in
theorem dX6_trees_86 : decode cX6_trees 86 = .ok (.lconst 1, 1) := by decide +kernel
set_option maxRecDepth 20000 in
theorem dX6_trees_87 : decode cX6_trees 87 = .ok (.goto 10, 3) := by decide +kernel
set_option maxRecDepth 20000 in
theorem dX6_trees_90 : decode cX6_trees 90 = .ok (.aload_n 0, 1) := by decide +kernel
set_option maxRecDepth 20000 in
theorem dX6_trees_91 : decode cX6_trees 91 = .ok (.iload_n 1, 1) := by decide +kernel
set_option maxRecDepth 20000 in
theorem dX6_trees_92 : decode cX6_trees 92 = .ok (.iload 6, 2) := by decide +kernel
set_option maxRecDepth 20000 in
theorem dX6_trees_94 : decode cX6_trees 94 = .ok (.invokevirtual 375, 3) := by decide +kernel
set_option maxRecDepth 20000 in
theorem dX6_trees_97 : decode cX6_trees 97 = .ok (.ladd, 1) := by decide +kernel
set_option maxRecDepth 20000 in
theorem dX6_trees_98 : decode cX6_trees 98 = .ok (.lstore 4, 2) := by decide +kernel
set_option maxRecDepth 20000 in
theorem dX6_trees_100 : decode cX6_trees 100 = .ok (.iinc 6 1, 3) := by decide +kernel
set_option maxRecDepth 20000 in
theorem dX6_trees_103 : decode cX6_trees 103 = .ok (.goto (-54), 3) := by decide +kernel
set_option maxRecDepth 20000 in
theorem dX6_trees_106 : decode cX6_trees 106 = .ok (.lload 4, 2) := by decide +kernel
set_option maxRecDepth 20000 in
theorem dX6_trees_108 : decode cX6_trees 108 = .ok (.lreturn, 1) := by decide +kernel
set_option maxRecDepth 20000 in
theorem dX6_minors_0 : decode cX6_minors 0 = .ok (.aload_n 0, 1) := by decide +kernel
set_option maxRecDepth 20000 in
theorem dX6_minors_1 : decode cX6_minors 1 = .ok (.invokevirtual 244, 3) := by decide +kernel
set_option maxRecDepth 20000 in
theorem dX6_minors_4 : decode cX6_minors 4 = .ok (.ifCond .ne 7, 3) := by decide +kernel
set_option maxRecDepth 20000 in
theorem dX6_minors_7 : decode cX6_minors 7 = .ok (.ldc2_w 369, 3) := by decide +kernel
set_option maxRecDepth 20000 in
theorem dX6_minors_10 : decode cX6_minors 10 = .ok (.lreturn, 1) := by decide +kernel
set_option maxRecDepth 20000 in
theorem dX6_minors_11 : decode cX6_minors 11 = .ok (.iload_n 1, 1) := by decide +kernel
set_option maxRecDepth 20000 in
theorem dX6_minors_12 : decode cX6_minors 12 = .ok (.i2l, 1) := by decide +kernel
set_option maxRecDepth 20000 in
theorem dX6_minors_13 : decode cX6_minors 13 = .ok (.lconst 0, 1) := by decide +kernel
set_option maxRecDepth 20000 in
theorem dX6_minors_14 : decode cX6_minors 14 = .ok (.ldc2_w 242, 3) := by decide +kernel
set_option maxRecDepth 20000 in
theorem dX6_minors_17 : decode cX6_minors 17 = .ok (.invokestatic 150, 3) := by decide +kernel
set_option maxRecDepth 20000 in
theorem dX6_minors_20 : decode cX6_minors 20 = .ok (.ifCond .ne 7, 3) := by decide +kernel
set_option maxRecDepth 20000 in
theorem dX6_minors_23 : decode cX6_minors 23 = .ok (.ldc2_w 358, 3) := by decide +kernel
set_option maxRecDepth 20000 in
theorem dX6_minors_26 : decode cX6_minors 26 = .ok (.lreturn, 1) := by decide +kernel
set_option maxRecDepth 20000 in
theorem dX6_minors_27 : decode cX6_minors 27 = .ok (.aload_n 0, 1) := by decide +kernel
set_option maxRecDepth 20000 in
theorem dX6_minors_28 : decode cX6_minors 28 = .ok (.iload_n 1, 1) := by decide +kernel
set_option maxRecDepth 20000 in
theorem dX6_minors_29 : decode cX6_minors 29 = .ok (.iconst 2, 1) := by decide +kernel
set_option maxRecDepth 20000 in
theorem dX6_minors_30 : decode cX6_minors 30 = .ok (.if_icmp .ne 7, 3) := by decide +kernel
set_option maxRecDepth 20000 in
theorem dX6_minors_33 : decode cX6_minors 33 = .ok (.iconst 2, 1) := by decide +kernel
set_option maxRecDepth 20000 in
theorem dX6_minors_34 : decode cX6_minors 34 = .ok (.goto 4, 3) := by decide +kernel
set_option maxRecDepth 20000 in
theorem dX6_minors_37 : decode cX6_minors 37 = .ok (.iconst 1, 1) := by decide +kernel
set_option maxRecDepth 20000 in
theorem dX6_minors_38 : decode cX6_minors 38 = .ok (.invokevirtual 303, 3) := by decide +kernel
set_option maxRecDepth 20000 in
theorem dX6_minors_41 : decode cX6_minors 41 = .ok (.istore_n 2, 1) := by decide +kernel
set_option maxRecDepth 20000 in
theorem dX6_minors_42 : decode cX6_minors 42 = .ok (.lconst 0, 1) := by decide +kernel
set_option maxRecDepth 20000 in
theorem dX6_minors_43 : decode cX6_minors 43 = .ok (.lstore_n 3, 1) := by decide +kernel
set_option maxRecDepth 20000 in
theorem dX6_minors_44 : decode cX6_minors 44 = .ok (.iconst 0, 1) := by decide +kernel
set_option maxRecDepth 20000 in
theorem dX6_minors_45 : decode cX6_minors 45 = .ok (.istore 5, 2) := by decide +kernel
set_option maxRecDepth 20000 in
theorem dX6_minors_47 : decode cX6_minors 47 = .ok (.iload 5, 2) := by decide +kernel
set_option maxRecDepth 20000 in
theorem dX6_minors_49 : decode cX6_minors 49 = .ok (.iconst 1, 1) := by decide +kernel
set_option maxRecDepth 20000 in
theorem dX6_minors_50 : decode cX6_minors 50 = .ok (.aload_n 0, 1) := by decide +kernel
set_option maxRecDepth 20000 in
theorem dX6_minors_51 : decode cX6_minors 51 = .ok (.iload_n 1, 1) := by decide +kernel
set_option maxRecDepth 20000 in
theorem dX6_minors_52 : decode cX6_minors 52 = .ok (.invokevirtual 297, 3) := by decide +kernel
set_option maxRecDepth 20000 in
theorem dX6_minors_55 : decode cX6_minors 55 = .ok (.ishl, 1) := by decide +kernel
set_option maxRecDepth 20000 in
theorem dX6_minors_56 : decode cX6_minors 56 = .ok (.if_icmp .ge 84, 3) := by decide +kernel
set_option maxRecDepth 20000 in
theorem dX6_minors_59 : decode cX6_minors 59 = .ok (.iload 5, 2) := by decide +kernel
set_option maxRecDepth 20000 in
theorem dX6_minors_61 : decode cX6_minors 61 = .ok (.invokestatic 99, 3) := by decide +kernel
set_option maxRecDepth 20000 in
theorem dX6_minors_64 : decode cX6_minors 64 = .ok (.iload_n 2, 1) := by decide +kernel
set_option maxRecDepth 20000 in
theorem dX6_minors_65 : decode cX6_minors 65 = .ok (.if_icmp .ne 69, 3) := by decide +kernel
set_option maxRecDepth 20000 in
theorem dX6_minors_68 : decode cX6_minors 68 = .ok (.iconst 0, 1) := by decide +kernel
set_option maxRecDepth 20000 in
theorem dX6_minors_69 : decode cX6_minors 69 = .ok (.istore 6, 2) := by decide +kernel
set_option maxRecDepth 20000 in
theorem dX6_minors_71 : decode cX6_minors 71 = .ok (.iload 6, 2) := by decide +kernel
set_option maxRecDepth 20000 in
theorem dX6_minors_73 : decode cX6_minors 73 = .ok (.iload_n 2, 1) := by decide +kernel
set_option maxRecDepth 20000 in
theorem dX6_minors_74 : decode cX6_minors 74 = .ok (.iload_n 2, 1) := by decide +kernel
set_option maxRecDepth 20000 in
theorem dX6_minors_75 : decode cX6_minors 75 = .ok (.imul, 1) := by decide +kernel
set_option maxRecDepth 20000 in
theorem dX6_minors_76 : decode cX6_minors 76 = .ok (.if_icmp .ge 50, 3) := by decide +kernel
set_option maxRecDepth 20000 in
theorem dX6_minors_79 : decode cX6_minors 79 = .ok (.aload_n 0, 1) := by decide +kernel
set_option maxRecDepth 20000 in
theorem dX6_minors_80 : decode cX6_minors 80 = .ok (.getfield 29, 3) := by decide +kernel
set_option maxRecDepth 20000 in
theorem dX6_minors_83 : decode cX6_minors 83 = .ok (.bipush 6, 2) := by decide +kernel
set_option maxRecDepth 20000 in
theorem dX6_minors_85 : decode cX6_minors 85 = .ok (.iload 6, 2) := by decide +kernel
set_option maxRecDepth 20000 in
theorem dX6_minors_87 : decode cX6_minors 87 = .ok (.iload_n 2, 1) := by decide +kernel
set_option maxRecDepth 20000 in
theorem dX6_minors_88 : decode cX6_minors 88 = .ok (.idiv, 1) := by decide +kernel
set_option maxRecDepth 20000 in
theorem dX6_minors_89 : decode cX6_minors 89 = .ok (.imul, 1) := by decide +kernel
set_option maxRecDepth 20000 in
theorem dX6_minors_90 : decode cX6_minors 90 = .ok (.iload 6, 2) := by decide +kernel
set_option maxRecDepth 20000 in
theorem dX6_minors_92 : decode cX6_minors 92 = .ok (.iload_n 2, 1) := by decide +kernel
set_option maxRecDepth 20000 in
theorem dX6_minors_93 : decode cX6_minors 93 = .ok (.irem, 1) := by decide +kernel
set_option maxRecDepth 20000 in
theorem dX6_minors_94 : decode cX6_minors 94 = .ok (.iadd, 1) := by decide +kernel
set_option maxRecDepth 20000 in
theorem dX6_minors_95 : decode cX6_minors 95 = .ok (.aload_n 0, 1) := by decide +kernel
set_option maxRecDepth 20000 in
theorem dX6_minors_96 : decode cX6_minors 96 = .ok (.iload_n 1, 1) := by decide +kernel
set_option maxRecDepth 20000 in
theorem dX6_minors_97 : decode cX6_minors 97 = .ok (.iload 5, 2) := by decide +kernel
set_option maxRecDepth 20000 in
theorem dX6_minors_99 : decode cX6_minors 99 = .ok (.iload 6, 2) := by decide +kernel
set_option maxRecDepth 20000 in
theorem dX6_minors_101 : decode cX6_minors 101 = .ok (.iload_n 2, 1) := by decide +kernel
set_option maxRecDepth 20000 in
theorem dX6_minors_102 : decode cX6_minors 102 = .ok (.idiv, 1) := by decide +kernel
set_option maxRecDepth 20000 in
theorem dX6_minors_103 : decode cX6_minors 103 = .ok (.invokestatic 102, 3) := by decide +kernel
set_option maxRecDepth 20000 in
theorem dX6_minors_106 : decode cX6_minors 106 = .ok (.iload 5, 2) := by decide +kernel
set_option maxRecDepth 20000 in
theorem dX6_minors_108 : decode cX6_minors 108 = .ok (.iload 6, 2) := by decide +kernel
set_option maxRecDepth 20000 in
theorem dX6_minors_110 : decode cX6_minors 110 = .ok (.iload_n 2, 1) := by decide +kernel
set_option maxRecDepth 20000 in
theorem dX6_minors_111 : decode cX6_minors 111 = .ok (.irem, 1) := by decide +kernel
set_option maxRecDepth 20000 in
theorem dX6_minors_112 : decode cX6_minors 112 = .ok (.invokestatic 102, 3) := by decide +kernel
set_option maxRecDepth 20000 in
theorem dX6_minors_115 : decode cX6_minors 115 = .ok (.invokevirtual 300, 3) := by decide +kernel
set_option maxRecDepth 20000 in
theorem dX6_minors_118 : decode cX6_minors 118 = .ok (.i2l, 1) := by decide +kernel
set_option maxRecDepth 20000 in
theorem dX6_minors_119 : decode cX6_minors 119 = .ok (.lastore, 1) := by decide +kernel
set_option maxRecDepth 20000 in
theorem dX6_minors_120 : decode cX6_minors 120 = .ok (.iinc 6 1, 3) := by decide +kernel
set_option maxRecDepth 20000 in
theorem dX6_minors_123 : decode cX6_minors 123 = .ok (.goto (-52), 3) := by decide +kernel
set_option maxRecDepth 20000 in
theorem dX6_minors_126 : decode cX6_minors 126 = .ok (.lload_n 3, 1) := by decide +kernel
set_option maxRecDepth 20000 in
theorem dX6_minors_127 : decode cX6_minors 127 = .ok (.aload_n 0, 1) := by decide +kernel
set_option maxRecDepth 20000 in
theorem dX6_minors_128 : decode cX6_minors 128 = .ok (.iload_n 2, 1) := by decide +kernel
set_option maxRecDepth 20000 in
theorem dX6_minors_129 : decode cX6_minors 129 = .ok (.invokevirtual 109, 3) := by decide +kernel
set_option maxRecDepth 20000 in
theorem dX6_minors_132 : decode cX6_minors 132 = .ok (.ladd, 1) := by decide +kernel
set_option maxRecDepth 20000 in
theorem dX6_minors_133 : decode cX6_minors 133 = .ok (.lstore_n 3, 1) := by decide +kernel
set_option maxRecDepth 20000 in
theorem dX6_minors_134 : decode cX6_minors 134 = .ok (.iinc 5 1, 3) := by decide +kernel
set_option maxRecDepth 20000 in
theorem dX6_minors_137 : decode cX6_minors 137 = .ok (.goto (-90), 3) := by decide +kernel
set_option maxRecDepth 20000 in
theorem dX6_minors_140 : decode cX6_minors 140 = .ok (.lload_n 3, 1) := by decide +kernel
set_option maxRecDepth 20000 in
theorem dX6_minors_141 : decode cX6_minors 141 = .ok (.lreturn, 1) := by decide +kernel
set_option maxRecDepth 20000 in
theorem dX6_image_0 : decode cX6_image 0 = .ok (.iload_n 1, 1) := by decide +kernel
set_option maxRecDepth 20000 in
theorem dX6_image_1 : decode cX6_image 1 = .ok (.i2l, 1) := by decide +kernel
set_option maxRecDepth 20000 in
theorem dX6_image_2 : decode cX6_image 2 = .ok (.lconst 0, 1) := by decide +kernel
set_option maxRecDepth 20000 in
theorem dX6_image_3 : decode cX6_image 3 = .ok (.lconst 1, 1) := by decide +kernel
set_option maxRecDepth 20000 in
theorem dX6_image_4 : decode cX6_image 4 = .ok (.invokestatic 150, 3) := by decide +kernel
set_option maxRecDepth 20000 in
theorem dX6_image_7 : decode cX6_image 7 = .ok (.ifCond .ne 6, 3) := by decide +kernel
set_option maxRecDepth 20000 in
theorem dX6_image_10 : decode cX6_image 10 = .ok (.ldc 218, 2) := by decide +kernel
set_option maxRecDepth 20000 in
theorem dX6_image_12 : decode cX6_image 12 = .ok (.ireturn, 1) := by decide +kernel
set_option maxRecDepth 20000 in
theorem dX6_image_13 : decode cX6_image 13 = .ok (.aload_n 0, 1) := by decide +kernel
set_option maxRecDepth 20000 in
theorem dX6_image_14 : decode cX6_image 14 = .ok (.invokevirtual 244, 3) := by decide +kernel
set_option maxRecDepth 20000 in
theorem dX6_image_17 : decode cX6_image 17 = .ok (.ifCond .ne 6, 3) := by decide +kernel
set_option maxRecDepth 20000 in
theorem dX6_image_20 : decode cX6_image 20 = .ok (.ldc 241, 2) := by decide +kernel
set_option maxRecDepth 20000 in
theorem dX6_image_22 : decode cX6_image 22 = .ok (.ireturn, 1) := by decide +kernel
set_option maxRecDepth 20000 in
theorem dX6_image_23 : decode cX6_image 23 = .ok (.aload_n 0, 1) := by decide +kernel
set_option maxRecDepth 20000 in
theorem dX6_image_24 : decode cX6_image 24 = .ok (.getfield 7, 3) := by decide +kernel
set_option maxRecDepth 20000 in
theorem dX6_image_27 : decode cX6_image 27 = .ok (.iconst 0, 1) := by decide +kernel
set_option maxRecDepth 20000 in
theorem dX6_image_28 : decode cX6_image 28 = .ok (.aload_n 0, 1) := by decide +kernel
set_option maxRecDepth 20000 in
theorem dX6_image_29 : decode cX6_image 29 = .ok (.getfield 19, 3) := by decide +kernel
set_option maxRecDepth 20000 in
theorem dX6_image_32 : decode cX6_image 32 = .ok (.bipush 63, 2) := by decide +kernel
set_option maxRecDepth 20000 in
theorem dX6_image_34 : decode cX6_image 34 = .ok (.iload_n 1, 1) := by decide +kernel
set_option maxRecDepth 20000 in
theorem dX6_image_35 : decode cX6_image 35 = .ok (.imul, 1) := by decide +kernel
set_option maxRecDepth 20000 in
theorem dX6_image_36 : decode cX6_image 36 = .ok (.invokestatic 234, 3) := by decide +kernel
set_option maxRecDepth 20000 in
theorem dX6_image_39 : decode cX6_image 39 = .ok (.aload_n 0, 1) := by decide +kernel
set_option maxRecDepth 20000 in
theorem dX6_image_40 : decode cX6_image 40 = .ok (.getfield 22, 3) := by decide +kernel
set_option maxRecDepth 20000 in
theorem dX6_image_43 : decode cX6_image 43 = .ok (.iload_n 1, 1) := by decide +kernel
set_option maxRecDepth 20000 in
theorem dX6_image_44 : decode cX6_image 44 = .ok (.iconst 1, 1) := by decide +kernel
set_option maxRecDepth 20000 in
theorem dX6_image_45 : decode cX6_image 45 = .ok (.bastore, 1) := by decide +kernel
set_option maxRecDepth 20000 in
theorem dX6_image_46 : decode cX6_image 46 = .ok (.iconst 1, 1) := by decide +kernel
set_option maxRecDepth 20000 in
theorem dX6_image_47 : decode cX6_image 47 = .ok (.ireturn, 1) := by decide +kernel
set_option maxRecDepth 20000 in
theorem dX6_restore_0 : decode cX6_restore 0 = .ok (.iload_n 1, 1) := by decide +kernel
set_option maxRecDepth 20000 in
theorem dX6_restore_1 : decode cX6_restore 1 = .ok (.i2l, 1) := by decide +kernel
set_option maxRecDepth 20000 in
theorem dX6_restore_2 : decode cX6_restore 2 = .ok (.lconst 0, 1) := by decide +kernel
set_option maxRecDepth 20000 in
theorem dX6_restore_3 : decode cX6_restore 3 = .ok (.lconst 1, 1) := by decide +kernel
set_option maxRecDepth 20000 in
theorem dX6_restore_4 : decode cX6_restore 4 = .ok (.invokestatic 150, 3) := by decide +kernel
set_option maxRecDepth 20000 in
theorem dX6_restore_7 : decode cX6_restore 7 = .ok (.ifCond .ne 6, 3) := by decide +kernel
set_option maxRecDepth 20000 in
theorem dX6_restore_10 : decode cX6_restore 10 = .ok (.ldc 218, 2) := by decide +kernel
set_option maxRecDepth 20000 in
theorem dX6_restore_12 : decode cX6_restore 12 = .ok (.ireturn, 1) := by decide +kernel
set_option maxRecDepth 20000 in
theorem dX6_restore_13 : decode cX6_restore 13 = .ok (.aload_n 0, 1) := by decide +kernel
set_option maxRecDepth 20000 in
theorem dX6_restore_14 : decode cX6_restore 14 = .ok (.getfield 22, 3) := by decide +kernel
set_option maxRecDepth 20000 in
theorem dX6_restore_17 : decode cX6_restore 17 = .ok (.iload_n 1, 1) := by decide +kernel
set_option maxRecDepth 20000 in
theorem dX6_restore_18 : decode cX6_restore 18 = .ok (.baload, 1) := by decide +kernel
set_option maxRecDepth 20000 in
theorem dX6_restore_19 : decode cX6_restore 19 = .ok (.ifCond .ne 6, 3) := by decide +kernel
set_option maxRecDepth 20000 in
theorem dX6_restore_22 : decode cX6_restore 22 = .ok (.ldc 241, 2) := by decide +kernel
set_option maxRecDepth 20000 in
theorem dX6_restore_24 : decode cX6_restore 24 = .ok (.ireturn, 1) := by decide +kernel
set_option maxRecDepth 20000 in
theorem dX6_restore_25 : decode cX6_restore 25 = .ok (.aload_n 0, 1) := by decide +kernel
set_option maxRecDepth 20000 in
theorem dX6_restore_26 : decode cX6_restore 26 = .ok (.getfield 19, 3) := by decide +kernel
set_option maxRecDepth 20000 in
theorem dX6_restore_29 : decode cX6_restore 29 = .ok (.bipush 63, 2) := by decide +kernel
set_option maxRecDepth 20000 in
theorem dX6_restore_31 : decode cX6_restore 31 = .ok (.iload_n 1, 1) := by decide +kernel
set_option maxRecDepth 20000 in
theorem dX6_restore_32 : decode cX6_restore 32 = .ok (.imul, 1) := by decide +kernel
set_option maxRecDepth 20000 in
theorem dX6_restore_33 : decode cX6_restore 33 = .ok (.aload_n 0, 1) := by decide +kernel
set_option maxRecDepth 20000 in
theorem dX6_restore_34 : decode cX6_restore 34 = .ok (.getfield 7, 3) := by decide +kernel
set_option maxRecDepth 20000 in
theorem dX6_restore_37 : decode cX6_restore 37 = .ok (.iconst 0, 1) := by decide +kernel
set_option maxRecDepth 20000 in
theorem dX6_restore_38 : decode cX6_restore 38 = .ok (.invokestatic 234, 3) := by decide +kernel
set_option maxRecDepth 20000 in
theorem dX6_restore_41 : decode cX6_restore 41 = .ok (.aload_n 0, 1) := by decide +kernel
set_option maxRecDepth 20000 in
theorem dX6_restore_42 : decode cX6_restore 42 = .ok (.iconst 0, 1) := by decide +kernel
set_option maxRecDepth 20000 in
theorem dX6_restore_43 : decode cX6_restore 43 = .ok (.putfield 238, 3) := by decide +kernel
set_option maxRecDepth 20000 in
theorem dX6_restore_46 : decode cX6_restore 46 = .ok (.iconst 1, 1) := by decide +kernel
set_option maxRecDepth 20000 in
theorem dX6_restore_47 : decode cX6_restore 47 = .ok (.ireturn, 1) := by decide +kernel
set_option maxRecDepth 20000 in
theorem dX6_count_0 : decode cX6_count 0 = .ok (.iload_n 1, 1) := by decide +kernel
set_option maxRecDepth 20000 in
theorem dX6_count_1 : decode cX6_count 1 = .ok (.tableswitch 52 0 4 #[35, 35, 35, 42, 47], 35) := by decide +kernel
set_option maxRecDepth 20000 in
theorem dX6_count_36 : decode cX6_count 36 = .ok (.aload_n 0, 1) := by decide +kernel
set_option maxRecDepth 20000 in
theorem dX6_count_37 : decode cX6_count 37 = .ok (.getfield 7, 3) := by decide +kernel
set_option maxRecDepth 20000 in
theorem dX6_count_40 : decode cX6_count 40 = .ok (.iload_n 1, 1) := by decide +kernel
set_option maxRecDepth 20000 in
theorem dX6_count_41 : decode cX6_count 41 = .ok (.iaload, 1) := by decide +kernel
set_option maxRecDepth 20000 in
theorem dX6_count_42 : decode cX6_count 42 = .ok (.ireturn, 1) := by decide +kernel
set_option maxRecDepth 20000 in
theorem dX6_count_43 : decode cX6_count 43 = .ok (.aload_n 0, 1) := by decide +kernel
set_option maxRecDepth 20000 in
theorem dX6_count_44 : decode cX6_count 44 = .ok (.getfield 238, 3) := by decide +kernel
set_option maxRecDepth 20000 in
theorem dX6_count_47 : decode cX6_count 47 = .ok (.ireturn, 1) := by decide +kernel
set_option maxRecDepth 20000 in
theorem dX6_count_48 : decode cX6_count 48 = .ok (.aload_n 0, 1) := by decide +kernel
set_option maxRecDepth 20000 in
theorem dX6_count_49 : decode cX6_count 49 = .ok (.getfield 130, 3) := by decide +kernel
set_option maxRecDepth 20000 in
theorem dX6_count_52 : decode cX6_count 52 = .ok (.ireturn, 1) := by decide +kernel
set_option maxRecDepth 20000 in
theorem dX6_count_53 : decode cX6_count 53 = .ok (.ldc 218, 2) := by decide +kernel
set_option maxRecDepth 20000 in
theorem dX6_count_55 : decode cX6_count 55 = .ok (.ireturn, 1) := by decide +kernel
set_option maxRecDepth 20000 in
theorem dJ6_bitCount_0f7a4_0 : decode cJ6_bitCount_0f7a4 0 = .ok (.iload_n 0, 1) := by decide +kernel
set_option maxRecDepth 20000 in
theorem dJ6_bitCount_0f7a4_1 : decode cJ6_bitCount_0f7a4 1 = .ok (.iload_n 0, 1) := by decide +kernel
set_option maxRecDepth 20000 in
theorem dJ6_bitCount_0f7a4_2 : decode cJ6_bitCount_0f7a4 2 = .ok (.iconst 1, 1) := by decide +kernel
set_option maxRecDepth 20000 in
theorem dJ6_bitCount_0f7a4_3 : decode cJ6_bitCount_0f7a4 3 = .ok (.iushr, 1) := by decide +kernel
set_option maxRecDepth 20000 in
theorem dJ6_bitCount_0f7a4_4 : decode cJ6_bitCount_0f7a4 4 = .ok (.ldc_w 265, 3) := by decide +kernel
set_option maxRecDepth 20000 in
theorem dJ6_bitCount_0f7a4_7 : decode cJ6_bitCount_0f7a4 7 = .ok (.iand, 1) := by decide +kernel
set_option maxRecDepth 20000 in
theorem dJ6_bitCount_0f7a4_8 : decode cJ6_bitCount_0f7a4 8 = .ok (.isub, 1) := by decide +kernel
set_option maxRecDepth 20000 in
theorem dJ6_bitCount_0f7a4_9 : decode cJ6_bitCount_0f7a4 9 = .ok (.istore_n 0, 1) := by decide +kernel
set_option maxRecDepth 20000 in
theorem dJ6_bitCount_0f7a4_10 : decode cJ6_bitCount_0f7a4 10 = .ok (.iload_n 0, 1) := by decide +kernel
set_option maxRecDepth 20000 in
theorem dJ6_bitCount_0f7a4_11 : decode cJ6_bitCount_0f7a4 11 = .ok (.ldc_w 266, 3) := by decide +kernel
set_option maxRecDepth 20000 in
theorem dJ6_bitCount_0f7a4_14 : decode cJ6_bitCount_0f7a4 14 = .ok (.iand, 1) := by decide +kernel
set_option maxRecDepth 20000 in
theorem dJ6_bitCount_0f7a4_15 : decode cJ6_bitCount_0f7a4 15 = .ok (.iload_n 0, 1) := by decide +kernel
set_option maxRecDepth 20000 in
theorem dJ6_bitCount_0f7a4_16 : decode cJ6_bitCount_0f7a4 16 = .ok (.iconst 2, 1) := by decide +kernel
set_option maxRecDepth 20000 in
theorem dJ6_bitCount_0f7a4_17 : decode cJ6_bitCount_0f7a4 17 = .ok (.iushr, 1) := by decide +kernel
set_option maxRecDepth 20000 in
theorem dJ6_bitCount_0f7a4_18 : decode cJ6_bitCount_0f7a4 18 = .ok (.ldc_w 266, 3) := by decide +kernel
set_option maxRecDepth 20000 in
theorem dJ6_bitCount_0f7a4_21 : decode cJ6_bitCount_0f7a4 21 = .ok (.iand, 1) := by decide +kernel
set_option maxRecDepth 20000 in
theorem dJ6_bitCount_0f7a4_22 : decode cJ6_bitCount_0f7a4 22 = .ok (.iadd, 1) := by decide +kernel
set_option maxRecDepth 20000 in
theorem dJ6_bitCount_0f7a4_23 : decode cJ6_bitCount_0f7a4 23 = .ok (.istore_n 0, 1) := by decide +kernel
set_option maxRecDepth 20000 in
theorem dJ6_bitCount_0f7a4_24 : decode cJ6_bitCount_0f7a4 24 = .ok (.iload_n 0, 1) := by decide +kernel
set_option maxRecDepth 20000 in
theorem dJ6_bitCount_0f7a4_25 : decode cJ6_bitCount_0f7a4 25 = .ok (.iload_n 0, 1) := by decide +kernel
set_option maxRecDepth 20000 in
theorem dJ6_bitCount_0f7a4_26 : decode cJ6_bitCount_0f7a4 26 = .ok (.iconst 4, 1) := by decide +kernel
set_option maxRecDepth 20000 in
theorem dJ6_bitCount_0f7a4_27 : decode cJ6_bitCount_0f7a4 27 = .ok (.iushr, 1) := by decide +kernel
set_option maxRecDepth 20000 in
theorem dJ6_bitCount_0f7a4_28 : decode cJ6_bitCount_0f7a4 28 = .ok (.iadd, 1) := by decide +kernel
set_option maxRecDepth 20000 in
theorem dJ6_bitCount_0f7a4_29 : decode cJ6_bitCount_0f7a4 29 = .ok (.ldc_w 267, 3) := by decide +kernel
set_option maxRecDepth 20000 in
theorem dJ6_bitCount_0f7a4_32 : decode cJ6_bitCount_0f7a4 32 = .ok (.iand, 1) := by decide +kernel
set_option maxRecDepth 20000 in
theorem dJ6_bitCount_0f7a4_33 : decode cJ6_bitCount_0f7a4 33 = .ok (.istore_n 0, 1) := by decide +kernel
set_option maxRecDepth 20000 in
theorem dJ6_bitCount_0f7a4_34 : decode cJ6_bitCount_0f7a4 34 = .ok (.iload_n 0, 1) := by decide +kernel
set_option maxRecDepth 20000 in
theorem dJ6_bitCount_0f7a4_35 : decode cJ6_bitCount_0f7a4 35 = .ok (.iload_n 0, 1) := by decide +kernel
set_option maxRecDepth 20000 in
theorem dJ6_bitCount_0f7a4_36 : decode cJ6_bitCount_0f7a4 36 = .ok (.bipush 8, 2) := by decide +kernel
set_option maxRecDepth 20000 in
theorem dJ6_bitCount_0f7a4_38 : decode cJ6_bitCount_0f7a4 38 = .ok (.iushr, 1) := by decide +kernel
set_option maxRecDepth 20000 in
theorem dJ6_bitCount_0f7a4_39 : decode cJ6_bitCount_0f7a4 39 = .ok (.iadd, 1) := by decide +kernel
set_option maxRecDepth 20000 in
theorem dJ6_bitCount_0f7a4_40 : decode cJ6_bitCount_0f7a4 40 = .ok (.istore_n 0, 1) := by decide +kernel
set_option maxRecDepth 20000 in
theorem dJ6_bitCount_0f7a4_41 : decode cJ6_bitCount_0f7a4 41 = .ok (.iload_n 0, 1) := by decide +kernel
set_option maxRecDepth 20000 in
theorem dJ6_bitCount_0f7a4_42 : decode cJ6_bitCount_0f7a4 42 = .ok (.iload_n 0, 1) := by decide +kernel
set_option maxRecDepth 20000 in
theorem dJ6_bitCount_0f7a4_43 : decode cJ6_bitCount_0f7a4 43 = .ok (.bipush 16, 2) := by decide +kernel
set_option maxRecDepth 20000 in
theorem dJ6_bitCount_0f7a4_45 : decode cJ6_bitCount_0f7a4 45 = .ok (.iushr, 1) := by decide +kernel
set_option maxRecDepth 20000 in
theorem dJ6_bitCount_0f7a4_46 : decode cJ6_bitCount_0f7a4 46 = .ok (.iadd, 1) := by decide +kernel
set_option maxRecDepth 20000 in
theorem dJ6_bitCount_0f7a4_47 : decode cJ6_bitCount_0f7a4 47 = .ok (.istore_n 0, 1) := by decide +kernel
set_option maxRecDepth 20000 in
theorem dJ6_bitCount_0f7a4_48 : decode cJ6_bitCount_0f7a4 48 = .ok (.iload_n 0, 1) := by decide +kernel
set_option maxRecDepth 20000 in
theorem dJ6_bitCount_0f7a4_49 : decode cJ6_bitCount_0f7a4 49 = .ok (.bipush 63, 2) := by decide +kernel
set_option maxRecDepth 20000 in
theorem dJ6_bitCount_0f7a4_51 : decode cJ6_bitCount_0f7a4 51 = .ok (.iand, 1) := by decide +kernel
set_option maxRecDepth 20000 in
theorem dJ6_bitCount_0f7a4_52 : decode cJ6_bitCount_0f7a4 52 = .ok (.ireturn, 1) := by decide +kernel
set_option maxRecDepth 20000 in
theorem dL_law_0 : decode cL_law 0 = .ok (.new 7, 3) := by decide +kernel
set_option maxRecDepth 20000 in
theorem dL_law_3 : decode cL_law 3 = .ok (.dup, 1) := by decide +kernel
set_option maxRecDepth 20000 in
theorem dL_law_4 : decode cL_law 4 = .ok (.invokespecial 9, 3) := by decide +kernel
set_option maxRecDepth 20000 in
theorem dL_law_7 : decode cL_law 7 = .ok (.astore_n 1, 1) := by decide +kernel
set_option maxRecDepth 20000 in
theorem dL_law_8 : decode cL_law 8 = .ok (.new 10, 3) := by decide +kernel
set_option maxRecDepth 20000 in
theorem dL_law_11 : decode cL_law 11 = .ok (.dup, 1) := by decide +kernel
set_option maxRecDepth 20000 in
theorem dL_law_12 : decode cL_law 12 = .ok (.invokespecial 12, 3) := by decide +kernel
set_option maxRecDepth 20000 in
theorem dL_law_15 : decode cL_law 15 = .ok (.astore_n 2, 1) := by decide +kernel
set_option maxRecDepth 20000 in
theorem dL_law_16 : decode cL_law 16 = .ok (.iconst 0, 1) := by decide +kernel
set_option maxRecDepth 20000 in
theorem dL_law_17 : decode cL_law 17 = .ok (.istore_n 3, 1) := by decide +kernel
set_option maxRecDepth 20000 in
theorem dL_law_18 : decode cL_law 18 = .ok (.iload_n 3, 1) := by decide +kernel
set_option maxRecDepth 20000 in
theorem dL_law_19 : decode cL_law 19 = .ok (.aload_n 0, 1) := by decide +kernel
set_option maxRecDepth 20000 in
theorem dL_law_20 : decode cL_law 20 = .ok (.arraylength, 1) := by decide +kernel
set_option maxRecDepth 20000 in
theorem dL_law_21 : decode cL_law 21 = .ok (.iconst 5, 1) := by decide +kernel
set_option maxRecDepth 20000 in
theorem dL_law_22 : decode cL_law 22 = .ok (.isub, 1) := by decide +kernel
set_option maxRecDepth 20000 in
theorem dL_law_23 : decode cL_law 23 = .ok (.if_icmp .gt 1098, 3) := by decide +kernel
set_option maxRecDepth 20000 in
theorem dL_law_26 : decode cL_law 26 = .ok (.aload_n 0, 1) := by decide +kernel
set_option maxRecDepth 20000 in
theorem dL_law_27 : decode cL_law 27 = .ok (.iload_n 3, 1) := by decide +kernel
set_option maxRecDepth 20000 in
theorem dL_law_28 : decode cL_law 28 = .ok (.iaload, 1) := by decide +kernel
set_option maxRecDepth 20000 in
theorem dL_law_29 : decode cL_law 29 = .ok (.bipush 31, 2) := by decide +kernel
set_option maxRecDepth 20000 in
theorem dL_law_31 : decode cL_law 31 = .ok (.iand, 1) := by decide +kernel
set_option maxRecDepth 20000 in
theorem dL_law_32 : decode cL_law 32 = .ok (.tableswitch 1083 0 28 #[132, 155, 168, 181, 194, 237, 280, 303, 336, 379, 422, 455, 498, 541, 584, 627, 660, 693, 726, 759, 792, 825, 879, 923, 956, 990, 1014, 1037, 1060], 132) := by decide +kernel
set_option maxRecDepth 20000 in
theorem dL_law_164 : decode cL_law 164 = .ok (.aload_n 1, 1) := by decide +kernel
set_option maxRecDepth 20000 in
theorem dL_law_165 : decode cL_law 165 = .ok (.aload_n 0, 1) := by decide +kernel
set_option maxRecDepth 20000 in
theorem dL_law_166 : decode cL_law 166 = .ok (.iload_n 3, 1) := by decide +kernel
set_option maxRecDepth 20000 in
theorem dL_law_167 : decode cL_law 167 = .ok (.iconst 1, 1) := by decide +kernel
set_option maxRecDepth 20000 in
theorem dL_law_168 : decode cL_law 168 = .ok (.iadd, 1) := by decide +kernel
set_option maxRecDepth 20000 in
theorem dL_law_169 : decode cL_law 169 = .ok (.iaload, 1) := by decide +kernel
set_option maxRecDepth 20000 in
theorem dL_law_170 : decode cL_law 170 = .ok (.invokevirtual 13, 3) := by decide +kernel
set_option maxRecDepth 20000 in
theorem dL_law_173 : decode cL_law 173 = .ok (.aload_n 2, 1) := by decide +kernel
set_option maxRecDepth 20000 in
theorem dL_law_174 : decode cL_law 174 = .ok (.aload_n 0, 1) := by decide +kernel
set_option maxRecDepth 20000 in
theorem dL_law_175 : decode cL_law 175 = .ok (.iload_n 3, 1) := by decide +kernel
set_option maxRecDepth 20000 in
theorem dL_law_176 : decode cL_law 176 = .ok (.iconst 1, 1) := by decide +kernel
set_option maxRecDepth 20000 in
theorem dL_law_177 : decode cL_law 177 = .ok (.iadd, 1) := by decide +kernel
set_option maxRecDepth 20000 in
theorem dL_law_178 : decode cL_law 178 = .ok (.iaload, 1) := by decide +kernel
set_option maxRecDepth 20000 in
theorem dL_law_179 : decode cL_law 179 = .ok (.invokevirtual 17, 3) := by decide +kernel
set_option maxRecDepth 20000 in
theorem dL_law_182 : decode cL_law 182 = .ok (.if_icmp .eq 933, 3) := by decide +kernel
set_option maxRecDepth 20000 in
theorem dL_law_185 : decode cL_law 185 = .ok (.iconst 0, 1) := by decide +kernel
set_option maxRecDepth 20000 in
theorem dL_law_186 : decode cL_law 186 = .ok (.ireturn, 1) := by decide +kernel
set_option maxRecDepth 20000 in
theorem dL_law_187 : decode cL_law 187 = .ok (.aload_n 1, 1) := by decide +kernel
set_option maxRecDepth 20000 in
theorem dL_law_188 : decode cL_law 188 = .ok (.invokevirtual 18, 3) := by decide +kernel
set_option maxRecDepth 20000 in
theorem dL_law_191 : decode cL_law 191 = .ok (.aload_n 2, 1) := by decide +kernel
set_option maxRecDepth 20000 in
theorem dL_law_192 : decode cL_law 192 = .ok (.invokevirtual 22, 3) := by decide +kernel
set_option maxRecDepth 20000 in
theorem dL_law_195 : decode cL_law 195 = .ok (.if_icmp .eq 920, 3) := by decide +kernel
set_option maxRecDepth 20000 in
theorem dL_law_198 : decode cL_law 198 = .ok (.iconst 0, 1) := by decide +kernel
set_option maxRecDepth 20000 in
theorem dL_law_199 : decode cL_law 199 = .ok (.ireturn, 1) := by decide +kernel
set_option maxRecDepth 20000 in
theorem dL_law_200 : decode cL_law 200 = .ok (.aload_n 1, 1) := by decide +kernel
set_option maxRecDepth 20000 in
theorem dL_law_201 : decode cL_law 201 = .ok (.invokevirtual 23, 3) := by decide +kernel
set_option maxRecDepth 20000 in
theorem dL_law_204 : decode cL_law 204 = .ok (.aload_n 2, 1) := by decide +kernel
set_option maxRecDepth 20000 in
theorem dL_law_205 : decode cL_law 205 = .ok (.invokevirtual 26, 3) := by decide +kernel
set_option maxRecDepth 20000 in
theorem dL_law_208 : decode cL_law 208 = .ok (.if_icmp .eq 907, 3) := by decide +kernel
set_option maxRecDepth 20000 in
theorem dL_law_211 : decode cL_law 211 = .ok (.iconst 0, 1) := by decide +kernel
set_option maxRecDepth 20000 in
theorem dL_law_212 : decode cL_law 212 = .ok (.ireturn, 1) := by decide +kernel
set_option maxRecDepth 20000 in
theorem dL_law_213 : decode cL_law 213 = .ok (.aload_n 1, 1) := by decide +kernel
set_option maxRecDepth 20000 in
theorem dL_law_214 : decode cL_law 214 = .ok (.invokevirtual 27, 3) := by decide +kernel
set_option maxRecDepth 20000 in
theorem dL_law_217 : decode cL_law 217 = .ok (.aload_n 2, 1) := by decide +kernel
set_option maxRecDepth 20000 in
theorem dL_law_218 : decode cL_law 218 = .ok (.invokevirtual 30, 3) := by decide +kernel
set_option maxRecDepth 20000 in
theorem dL_law_221 : decode cL_law 221 = .ok (.if_icmp .eq 894, 3) := by decide +kernel
set_option maxRecDepth 20000 in
theorem dL_law_224 : decode cL_law 224 = .ok (.iconst 0, 1) := by decide +kernel
set_option maxRecDepth 20000 in
theorem dL_law_225 : decode cL_law 225 = .ok (.ireturn, 1) := by decide +kernel
set_option maxRecDepth 20000 in
theorem dL_law_226 : decode cL_law 226 = .ok (.aload_n 1, 1) := by decide +kernel
set_option maxRecDepth 20000 in
theorem dL_law_227 : decode cL_law 227 = .ok (.aload_n 0, 1) := by decide +kernel
set_option maxRecDepth 20000 in
theorem dL_law_228 : decode cL_law 228 = .ok (.iload_n 3, 1) := by decide +kernel
set_option maxRecDepth 20000 in
theorem dL_law_229 : decode cL_law 229 = .ok (.iconst 1, 1) := by decide +kernel
set_option maxRecDepth 20000 in
theorem dL_law_230 : decode cL_law 230 = .ok (.iadd, 1) := by decide +kernel
set_option maxRecDepth 20000 in
theorem dL_law_231 : decode cL_law 231 = .ok (.iaload, 1) := by decide +kernel
set_option maxRecDepth 20000 in
theorem dL_law_232 : decode cL_law 232 = .ok (.aload_n 0, 1) := by decide +kernel
set_option maxRecDepth 20000 in
theorem dL_law_233 : decode cL_law 233 = .ok (.iload_n 3, 1) := by decide +kernel
set_option maxRecDepth 20000 in
theorem dL_law_234 : decode cL_law 234 = .ok (.iconst 2, 1) := by decide +kernel
set_option maxRecDepth 20000 in
theorem dL_law_235 : decode cL_law 235 = .ok (.iadd, 1) := by decide +kernel
set_option maxRecDepth 20000 in
theorem dL_law_236 : decode cL_law 236 = .ok (.iaload, 1) := by decide +kernel
set_option maxRecDepth 20000 in
theorem dL_law_237 : decode cL_law 237 = .ok (.aload_n 0, 1) := by decide +kernel
set_option maxRecDepth 20000 in
theorem dL_law_238 : decode cL_law 238 = .ok (.iload_n 3, 1) := by decide +kernel
set_option maxRecDepth 20000 in
theorem dL_law_239 : decode cL_law 239 = .ok (.iconst 3, 1) := by decide +kernel
set_option maxRecDepth 20000 in
theorem dL_law_240 : decode cL_law 240 = .ok (.iadd, 1) := by decide +kernel
set_option maxRecDepth 20000 in
theorem dL_law_241 : decode cL_law 241 = .ok (.iaload, 1) := by decide +kernel
set_option maxRecDepth 20000 in
theorem dL_law_242 : decode cL_law 242 = .ok (.invokevirtual 31, 3) := by decide +kernel
set_option maxRecDepth 20000 in
theorem dL_law_245 : decode cL_law 245 = .ok (.aload_n 2, 1) := by decide +kernel
set_option maxRecDepth 20000 in
theorem dL_law_246 : decode cL_law 246 = .ok (.aload_n 0, 1) := by decide +kernel
set_option maxRecDepth 20000 in
theorem dL_law_247 : decode cL_law 247 = .ok (.iload_n 3, 1) := by decide +kernel
set_option maxRecDepth 20000 in
theorem dL_law_248 : decode cL_law 248 = .ok (.iconst 1, 1) := by decide +kernel
set_option maxRecDepth 20000 in
theorem dL_law_249 : decode cL_law 249 = .ok (.iadd, 1) := by decide +kernel
set_option maxRecDepth 20000 in
theorem dL_law_250 : decode cL_law 250 = .ok (.iaload, 1) := by decide +kernel
set_option maxRecDepth 20000 in
theorem dL_law_251 : decode cL_law 251 = .ok (.aload_n 0, 1) := by decide +kernel
set_option maxRecDepth 20000 in
theorem dL_law_252 : decode cL_law 252 = .ok (.iload_n 3, 1) := by decide +kernel
set_option maxRecDepth 20000 in
theorem dL_law_253 : decode cL_law 253 = .ok (.iconst 2, 1) := by decide +kernel
set_option maxRecDepth 20000 in
theorem dL_law_254 : decode cL_law 254 = .ok (.iadd, 1) := by decide +kernel
set_option maxRecDepth 20000 in
theorem dL_law_255 : decode cL_law 255 = .ok (.iaload, 1) := by decide +kernel
set_option maxRecDepth 20000 in
theorem dL_law_256 : decode cL_law 256 = .ok (.aload_n 0, 1) := by decide +kernel
set_option maxRecDepth 20000 in
theorem dL_law_257 : decode cL_law 257 = .ok (.iload_n 3, 1) := by decide +kernel
set_option maxRecDepth 20000 in
theorem dL_law_258 : decode cL_law 258 = .ok (.iconst 3, 1) := by decide +kernel
set_option maxRecDepth 20000 in
theorem dL_law_259 : decode cL_law 259 = .ok (.iadd, 1) := by decide +kernel
set_option maxRecDepth 20000 in
theorem dL_law_260 : decode cL_law 260 = .ok (.iaload, 1) := by decide +kernel
set_option maxRecDepth 20000 in
theorem dL_law_261 : decode cL_law 261 = .ok (.invokevirtual 35, 3) := by decide +kernel
set_option maxRecDepth 20000 in
theorem dL_law_264 : decode cL_law 264 = .ok (.if_icmp .eq 851, 3) := by decide +kernel
set_option maxRecDepth 20000 in
theorem dL_law_267 : decode cL_law 267 = .ok (.iconst 0, 1) := by decide +kernel
set_option maxRecDepth 20000 in
theorem dL_law_268 : decode cL_law 268 = .ok (.ireturn, 1) := by decide +kernel
set_option maxRecDepth 20000 in
theorem dL_law_269 : decode cL_law 269 = .ok (.aload_n 1, 1) := by decide +kernel
set_option maxRecDepth 20000 in
theorem dL_law_270 : decode cL_law 270 = .ok (.aload_n 0, 1) := by decide +kernel
set_option maxRecDepth 20000 in
theorem dL_law_271 : decode cL_law 271 = .ok (.iload_n 3, 1) := by decide +kernel
set_option maxRecDepth 20000 in
theorem dL_law_272 : decode cL_law 272 = .ok (.iconst 1, 1) := by decide +kernel
set_option maxRecDepth 20000 in
theorem dL_law_273 : decode cL_law 273 = .ok (.iadd, 1) := by decide +kernel
set_option maxRecDepth 20000 in
theorem dL_law_274 : decode cL_law 274 = .ok (.iaload, 1) := by decide +kernel
set_option maxRecDepth 20000 in
theorem dL_law_275 : decode cL_law 275 = .ok (.aload_n 0, 1) := by decide +kernel
set_option maxRecDepth 20000 in
theorem dL_law_276 : decode cL_law 276 = .ok (.iload_n 3, 1) := by decide +kernel
set_option maxRecDepth 20000 in
theorem dL_law_277 : decode cL_law 277 = .ok (.iconst 2, 1) := by decide +kernel
set_option maxRecDepth 20000 in
theorem dL_law_278 : decode cL_law 278 = .ok (.iadd, 1) := by decide +kernel
set_option maxRecDepth 20000 in
theorem dL_law_279 : decode cL_law 279 = .ok (.iaload, 1) := by decide +kernel
set_option maxRecDepth 20000 in
theorem dL_law_280 : decode cL_law 280 = .ok (.aload_n 0, 1) := by decide +kernel
set_option maxRecDepth 20000 in
theorem dL_law_281 : decode cL_law 281 = .ok (.iload_n 3, 1) := by decide +kernel
set_option maxRecDepth 20000 in
theorem dL_law_282 : decode cL_law 282 = .ok (.iconst 3, 1) := by decide +kernel
set_option maxRecDepth 20000 in
theorem dL_law_283 : decode cL_law 283 = .ok (.iadd, 1) := by decide +kernel
set_option maxRecDepth 20000 in
theorem dL_law_284 : decode cL_law 284 = .ok (.iaload, 1) := by decide +kernel
set_option maxRecDepth 20000 in
theorem dL_law_285 : decode cL_law 285 = .ok (.invokevirtual 36, 3) := by decide +kernel
set_option maxRecDepth 20000 in
theorem dL_law_288 : decode cL_law 288 = .ok (.aload_n 2, 1) := by decide +kernel
set_option maxRecDepth 20000 in
theorem dL_law_289 : decode cL_law 289 = .ok (.aload_n 0, 1) := by decide +kernel
set_option maxRecDepth 20000 in
theorem dL_law_290 : decode cL_law 290 = .ok (.iload_n 3, 1) := by decide +kernel
set_option maxRecDepth 20000 in
theorem dL_law_291 : decode cL_law 291 = .ok (.iconst 1, 1) := by decide +kernel
set_option maxRecDepth 20000 in
theorem dL_law_292 : decode cL_law 292 = .ok (.iadd, 1) := by decide +kernel
set_option maxRecDepth 20000 in
theorem dL_law_293 : decode cL_law 293 = .ok (.iaload, 1) := by decide +kernel
set_option maxRecDepth 20000 in
theorem dL_law_294 : decode cL_law 294 = .ok (.aload_n 0, 1) := by decide +kernel
set_option maxRecDepth 20000 in
theorem dL_law_295 : decode cL_law 295 = .ok (.iload_n 3, 1) := by decide +kernel
set_option maxRecDepth 20000 in
theorem dL_law_296 : decode cL_law 296 = .ok (.iconst 2, 1) := by decide +kernel
set_option maxRecDepth 20000 in
theorem dL_law_297 : decode cL_law 297 = .ok (.iadd, 1) := by decide +kernel
set_option maxRecDepth 20000 in
theorem dL_law_298 : decode cL_law 298 = .ok (.iaload, 1) := by decide +kernel
set_option maxRecDepth 20000 in
theorem dL_law_299 : decode cL_law 299 = .ok (.aload_n 0, 1) := by decide +kernel
set_option maxRecDepth 20000 in
theorem dL_law_300 : decode cL_law 300 = .ok (.iload_n 3, 1) := by decide +kernel
set_option maxRecDepth 20000 in
theorem dL_law_301 : decode cL_law 301 = .ok (.iconst 3, 1) := by decide +kernel
set_option maxRecDepth 20000 in
theorem dL_law_302 : decode cL_law 302 = .ok (.iadd, 1) := by decide +kernel
set_option maxRecDepth 20000 in
theorem dL_law_303 : decode cL_law 303 = .ok (.iaload, 1) := by decide +kernel
set_option maxRecDepth 20000 in
theorem dL_law_304 : decode cL_law 304 = .ok (.invokevirtual 39, 3) := by decide +kernel
set_option maxRecDepth 20000 in
theorem dL_law_307 : decode cL_law 307 = .ok (.if_icmp .eq 808, 3) := by decide +kernel
set_option maxRecDepth 20000 in
theorem dL_law_310 : decode cL_law 310 = .ok (.iconst 0, 1) := by decide +kernel
set_option maxRecDepth 20000 in
theorem dL_law_311 : decode cL_law 311 = .ok (.ireturn, 1) := by decide +kernel
set_option maxRecDepth 20000 in
theorem dL_law_312 : decode cL_law 312 = .ok (.aload_n 1, 1) := by decide +kernel
set_option maxRecDepth 20000 in
theorem dL_law_313 : decode cL_law 313 = .ok (.aload_n 0, 1) := by decide +kernel
set_option maxRecDepth 20000 in
theorem dL_law_314 : decode cL_law 314 = .ok (.iload_n 3, 1) := by decide +kernel
set_option maxRecDepth 20000 in
theorem dL_law_315 : decode cL_law 315 = .ok (.iconst 1, 1) := by decide +kernel
set_option maxRecDepth 20000 in
theorem dL_law_316 : decode cL_law 316 = .ok (.iadd, 1) := by decide +kernel
set_option maxRecDepth 20000 in
theorem dL_law_317 : decode cL_law 317 = .ok (.iaload, 1) := by decide +kernel
set_option maxRecDepth 20000 in
theorem dL_law_318 : decode cL_law 318 = .ok (.invokevirtual 40, 3) := by decide +kernel
set_option maxRecDepth 20000 in
theorem dL_law_321 : decode cL_law 321 = .ok (.aload_n 2, 1) := by decide +kernel
set_option maxRecDepth 20000 in
theorem dL_law_322 : decode cL_law 322 = .ok (.aload_n 0, 1) := by decide +kernel
set_option maxRecDepth 20000 in
theorem dL_law_323 : decode cL_law 323 = .ok (.iload_n 3, 1) := by decide +kernel
set_option maxRecDepth 20000 in
theorem dL_law_324 : decode cL_law 324 = .ok (.iconst 1, 1) := by decide +kernel
set_option maxRecDepth 20000 in
theorem dL_law_325 : decode cL_law 325 = .ok (.iadd, 1) := by decide +kernel
set_option maxRecDepth 20000 in
theorem dL_law_326 : decode cL_law 326 = .ok (.iaload, 1) := by decide +kernel
set_option maxRecDepth 20000 in
theorem dL_law_327 : decode cL_law 327 = .ok (.invokevirtual 43, 3) := by decide +kernel
set_option maxRecDepth 20000 in
theorem dL_law_330 : decode cL_law 330 = .ok (.if_icmp .eq 785, 3) := by decide +kernel
set_option maxRecDepth 20000 in
theorem dL_law_333 : decode cL_law 333 = .ok (.iconst 0, 1) := by decide +kernel
set_option maxRecDepth 20000 in
theorem dL_law_334 : decode cL_law 334 = .ok (.ireturn, 1) := by decide +kernel
set_option maxRecDepth 20000 in
theorem dL_law_335 : decode cL_law 335 = .ok (.aload_n 1, 1) := by decide +kernel
set_option maxRecDepth 20000 in
theorem dL_law_336 : decode cL_law 336 = .ok (.aload_n 0, 1) := by decide +kernel
set_option maxRecDepth 20000 in
theorem dL_law_337 : decode cL_law 337 = .ok (.iload_n 3, 1) := by decide +kernel
set_option maxRecDepth 20000 in
theorem dL_law_338 : decode cL_law 338 = .ok (.iconst 1, 1) := by decide +kernel
set_option maxRecDepth 20000 in
theorem dL_law_339 : decode cL_law 339 = .ok (.iadd, 1) := by decide +kernel
set_option maxRecDepth 20000 in
theorem dL_law_340 : decode cL_law 340 = .ok (.iaload, 1) := by decide +kernel
set_option maxRecDepth 20000 in
theorem dL_law_341 : decode cL_law 341 = .ok (.aload_n 0, 1) := by decide +kernel
set_option maxRecDepth 20000 in
theorem dL_law_342 : decode cL_law 342 = .ok (.iload_n 3, 1) := by decide +kernel
set_option maxRecDepth 20000 in
theorem dL_law_343 : decode cL_law 343 = .ok (.iconst 2, 1) := by decide +kernel
set_option maxRecDepth 20000 in
theorem dL_law_344 : decode cL_law 344 = .ok (.iadd, 1) := by decide +kernel
set_option maxRecDepth 20000 in
theorem dL_law_345 : decode cL_law 345 = .ok (.iaload, 1) := by decide +kernel
set_option maxRecDepth 20000 in
theorem dL_law_346 : decode cL_law 346 = .ok (.invokevirtual 44, 3) := by decide +kernel
set_option maxRecDepth 20000 in
theorem dL_law_349 : decode cL_law 349 = .ok (.aload_n 2, 1) := by decide +kernel
set_option maxRecDepth 20000 in
theorem dL_law_350 : decode cL_law 350 = .ok (.aload_n 0, 1) := by decide +kernel
set_option maxRecDepth 20000 in
theorem dL_law_351 : decode cL_law 351 = .ok (.iload_n 3, 1) := by decide +kernel
set_option maxRecDepth 20000 in
theorem dL_law_352 : decode cL_law 352 = .ok (.iconst 1, 1) := by decide +kernel
set_option maxRecDepth 20000 in
theorem dL_law_353 : decode cL_law 353 = .ok (.iadd, 1) := by decide +kernel
set_option maxRecDepth 20000 in
theorem dL_law_354 : decode cL_law 354 = .ok (.iaload, 1) := by decide +kernel
set_option maxRecDepth 20000 in
theorem dL_law_355 : decode cL_law 355 = .ok (.aload_n 0, 1) := by decide +kernel
set_option maxRecDepth 20000 in
theorem dL_law_356 : decode cL_law 356 = .ok (.iload_n 3, 1) := by decide +kernel
set_option maxRecDepth 20000 in
theorem dL_law_357 : decode cL_law 357 = .ok (.iconst 2, 1) := by decide +kernel
set_option maxRecDepth 20000 in
theorem dL_law_358 : decode cL_law 358 = .ok (.iadd, 1) := by decide +kernel
set_option maxRecDepth 20000 in
theorem dL_law_359 : decode cL_law 359 = .ok (.iaload, 1) := by decide +kernel
set_option maxRecDepth 20000 in
theorem dL_law_360 : decode cL_law 360 = .ok (.invokevirtual 48, 3) := by decide +kernel
set_option maxRecDepth 20000 in
theorem dL_law_363 : decode cL_law 363 = .ok (.if_icmp .eq 752, 3) := by decide +kernel
set_option maxRecDepth 20000 in
theorem dL_law_366 : decode cL_law 366 = .ok (.iconst 0, 1) := by decide +kernel
set_option maxRecDepth 20000 in
theorem dL_law_367 : decode cL_law 367 = .ok (.ireturn, 1) := by decide +kernel
set_option maxRecDepth 20000 in
theorem dL_law_368 : decode cL_law 368 = .ok (.aload_n 1, 1) := by decide +kernel
set_option maxRecDepth 20000 in
theorem dL_law_369 : decode cL_law 369 = .ok (.aload_n 0, 1) := by decide +kernel
set_option maxRecDepth 20000 in
theorem dL_law_370 : decode cL_law 370 = .ok (.iload_n 3, 1) := by decide +kernel
set_option maxRecDepth 20000 in
theorem dL_law_371 : decode cL_law 371 = .ok (.iconst 1, 1) := by decide +kernel
set_option maxRecDepth 20000 in
theorem dL_law_372 : decode cL_law 372 = .ok (.iadd, 1) := by decide +kernel
set_option maxRecDepth 20000 in
theorem dL_law_373 : decode cL_law 373 = .ok (.iaload, 1) := by decide +kernel
set_option maxRecDepth 20000 in
theorem dL_law_374 : decode cL_law 374 = .ok (.aload_n 0, 1) := by decide +kernel
set_option maxRecDepth 20000 in
theorem dL_law_375 : decode cL_law 375 = .ok (.iload_n 3, 1) := by decide +kernel
set_option maxRecDepth 20000 in
theorem dL_law_376 : decode cL_law 376 = .ok (.iconst 2, 1) := by decide +kernel
set_option maxRecDepth 20000 in
theorem dL_law_377 : decode cL_law 377 = .ok (.iadd, 1) := by decide +kernel
set_option maxRecDepth 20000 in
theorem dL_law_378 : decode cL_law 378 = .ok (.iaload, 1) := by decide +kernel
set_option maxRecDepth 20000 in
theorem dL_law_379 : decode cL_law 379 = .ok (.aload_n 0, 1) := by decide +kernel
set_option maxRecDepth 20000 in
theorem dL_law_380 : decode cL_law 380 = .ok (.iload_n 3, 1) := by decide +kernel
set_option maxRecDepth 20000 in
theorem dL_law_381 : decode cL_law 381 = .ok (.iconst 3, 1) := by decide +kernel
set_option maxRecDepth 20000 in
theorem dL_law_382 : decode cL_law 382 = .ok (.iadd, 1) := by decide +kernel
set_option maxRecDepth 20000 in
theorem dL_law_383 : decode cL_law 383 = .ok (.iaload, 1) := by decide +kernel
set_option maxRecDepth 20000 in
theorem dL_law_384 : decode cL_law 384 = .ok (.invokevirtual 49, 3) := by decide +kernel
set_option maxRecDepth 20000 in
theorem dL_law_387 : decode cL_law 387 = .ok (.aload_n 2, 1) := by decide +kernel
set_option maxRecDepth 20000 in
theorem dL_law_388 : decode cL_law 388 = .ok (.aload_n 0, 1) := by decide +kernel
set_option maxRecDepth 20000 in
theorem dL_law_389 : decode cL_law 389 = .ok (.iload_n 3, 1) := by decide +kernel
set_option maxRecDepth 20000 in
theorem dL_law_390 : decode cL_law 390 = .ok (.iconst 1, 1) := by decide +kernel
set_option maxRecDepth 20000 in
theorem dL_law_391 : decode cL_law 391 = .ok (.iadd, 1) := by decide +kernel
set_option maxRecDepth 20000 in
theorem dL_law_392 : decode cL_law 392 = .ok (.iaload, 1) := by decide +kernel
set_option maxRecDepth 20000 in
theorem dL_law_393 : decode cL_law 393 = .ok (.aload_n 0, 1) := by decide +kernel
set_option maxRecDepth 20000 in
theorem dL_law_394 : decode cL_law 394 = .ok (.iload_n 3, 1) := by decide +kernel
set_option maxRecDepth 20000 in
theorem dL_law_395 : decode cL_law 395 = .ok (.iconst 2, 1) := by decide +kernel
set_option maxRecDepth 20000 in
theorem dL_law_396 : decode cL_law 396 = .ok (.iadd, 1) := by decide +kernel
set_option maxRecDepth 20000 in
theorem dL_law_397 : decode cL_law 397 = .ok (.iaload, 1) := by decide +kernel
set_option maxRecDepth 20000 in
theorem dL_law_398 : decode cL_law 398 = .ok (.aload_n 0, 1) := by decide +kernel
set_option maxRecDepth 20000 in
theorem dL_law_399 : decode cL_law 399 = .ok (.iload_n 3, 1) := by decide +kernel
set_option maxRecDepth 20000 in
theorem dL_law_400 : decode cL_law 400 = .ok (.iconst 3, 1) := by decide +kernel
set_option maxRecDepth 20000 in
theorem dL_law_401 : decode cL_law 401 = .ok (.iadd, 1) := by decide +kernel
set_option maxRecDepth 20000 in
theorem dL_law_402 : decode cL_law 402 = .ok (.iaload, 1) := by decide +kernel
set_option maxRecDepth 20000 in
theorem dL_law_403 : decode cL_law 403 = .ok (.invokevirtual 52, 3) := by decide +kernel
set_option maxRecDepth 20000 in
theorem dL_law_406 : decode cL_law 406 = .ok (.if_icmp .eq 709, 3) := by decide +kernel
set_option maxRecDepth 20000 in
theorem dL_law_409 : decode cL_law 409 = .ok (.iconst 0, 1) := by decide +kernel
set_option maxRecDepth 20000 in
theorem dL_law_410 : decode cL_law 410 = .ok (.ireturn, 1) := by decide +kernel
set_option maxRecDepth 20000 in
theorem dL_law_411 : decode cL_law 411 = .ok (.aload_n 1, 1) := by decide +kernel
set_option maxRecDepth 20000 in
theorem dL_law_412 : decode cL_law 412 = .ok (.aload_n 0, 1) := by decide +kernel
set_option maxRecDepth 20000 in
theorem dL_law_413 : decode cL_law 413 = .ok (.iload_n 3, 1) := by decide +kernel
set_option maxRecDepth 20000 in
theorem dL_law_414 : decode cL_law 414 = .ok (.iconst 1, 1) := by decide +kernel
set_option maxRecDepth 20000 in
theorem dL_law_415 : decode cL_law 415 = .ok (.iadd, 1) := by decide +kernel
set_option maxRecDepth 20000 in
theorem dL_law_416 : decode cL_law 416 = .ok (.iaload, 1) := by decide +kernel
set_option maxRecDepth 20000 in
theorem dL_law_417 : decode cL_law 417 = .ok (.aload_n 0, 1) := by decide +kernel
set_option maxRecDepth 20000 in
theorem dL_law_418 : decode cL_law 418 = .ok (.iload_n 3, 1) := by decide +kernel
set_option maxRecDepth 20000 in
theorem dL_law_419 : decode cL_law 419 = .ok (.iconst 2, 1) := by decide +kernel
set_option maxRecDepth 20000 in
theorem dL_law_420 : decode cL_law 420 = .ok (.iadd, 1) := by decide +kernel
set_option maxRecDepth 20000 in
theorem dL_law_421 : decode cL_law 421 = .ok (.iaload, 1) := by decide +kernel
set_option maxRecDepth 20000 in
theorem dL_law_422 : decode cL_law 422 = .ok (.aload_n 0, 1) := by decide +kernel
set_option maxRecDepth 20000 in
theorem dL_law_423 : decode cL_law 423 = .ok (.iload_n 3, 1) := by decide +kernel
set_option maxRecDepth 20000 in
theorem dL_law_424 : decode cL_law 424 = .ok (.iconst 3, 1) := by decide +kernel
set_option maxRecDepth 20000 in
theorem dL_law_425 : decode cL_law 425 = .ok (.iadd, 1) := by decide +kernel
set_option maxRecDepth 20000 in
theorem dL_law_426 : decode cL_law 426 = .ok (.iaload, 1) := by decide +kernel
set_option maxRecDepth 20000 in
theorem dL_law_427 : decode cL_law 427 = .ok (.invokevirtual 53, 3) := by decide +kernel
set_option maxRecDepth 20000 in
theorem dL_law_430 : decode cL_law 430 = .ok (.aload_n 2, 1) := by decide +kernel
set_option maxRecDepth 20000 in
theorem dL_law_431 : decode cL_law 431 = .ok (.aload_n 0, 1) := by decide +kernel
set_option maxRecDepth 20000 in
theorem dL_law_432 : decode cL_law 432 = .ok (.iload_n 3, 1) := by decide +kernel
set_option maxRecDepth 20000 in
theorem dL_law_433 : decode cL_law 433 = .ok (.iconst 1, 1) := by decide +kernel
set_option maxRecDepth 20000 in
theorem dL_law_434 : decode cL_law 434 = .ok (.iadd, 1) := by decide +kernel
set_option maxRecDepth 20000 in
theorem dL_law_435 : decode cL_law 435 = .ok (.iaload, 1) := by decide +kernel
set_option maxRecDepth 20000 in
theorem dL_law_436 : decode cL_law 436 = .ok (.aload_n 0, 1) := by decide +kernel
set_option maxRecDepth 20000 in
theorem dL_law_437 : decode cL_law 437 = .ok (.iload_n 3, 1) := by decide +kernel
set_option maxRecDepth 20000 in
theorem dL_law_438 : decode cL_law 438 = .ok (.iconst 2, 1) := by decide +kernel
set_option maxRecDepth 20000 in
theorem dL_law_439 : decode cL_law 439 = .ok (.iadd, 1) := by decide +kernel
set_option maxRecDepth 20000 in
theorem dL_law_440 : decode cL_law 440 = .ok (.iaload, 1) := by decide +kernel
set_option maxRecDepth 20000 in
theorem dL_law_441 : decode cL_law 441 = .ok (.aload_n 0, 1) := by decide +kernel
set_option maxRecDepth 20000 in
theorem dL_law_442 : decode cL_law 442 = .ok (.iload_n 3, 1) := by decide +kernel
set_option maxRecDepth 20000 in
theorem dL_law_443 : decode cL_law 443 = .ok (.iconst 3, 1) := by decide +kernel
set_option maxRecDepth 20000 in
theorem dL_law_444 : decode cL_law 444 = .ok (.iadd, 1) := by decide +kernel
set_option maxRecDepth 20000 in
theorem dL_law_445 : decode cL_law 445 = .ok (.iaload, 1) := by decide +kernel
set_option maxRecDepth 20000 in
theorem dL_law_446 : decode cL_law 446 = .ok (.invokevirtual 56, 3) := by decide +kernel
set_option maxRecDepth 20000 in
theorem dL_law_449 : decode cL_law 449 = .ok (.if_icmp .eq 666, 3) := by decide +kernel
set_option maxRecDepth 20000 in
theorem dL_law_452 : decode cL_law 452 = .ok (.iconst 0, 1) := by decide +kernel
set_option maxRecDepth 20000 in
theorem dL_law_453 : decode cL_law 453 = .ok (.ireturn, 1) := by decide +kernel
set_option maxRecDepth 20000 in
theorem dL_law_454 : decode cL_law 454 = .ok (.aload_n 1, 1) := by decide +kernel
set_option maxRecDepth 20000 in
theorem dL_law_455 : decode cL_law 455 = .ok (.aload_n 0, 1) := by decide +kernel
set_option maxRecDepth 20000 in
theorem dL_law_456 : decode cL_law 456 = .ok (.iload_n 3, 1) := by decide +kernel
set_option maxRecDepth 20000 in
theorem dL_law_457 : decode cL_law 457 = .ok (.iconst 1, 1) := by decide +kernel
set_option maxRecDepth 20000 in
theorem dL_law_458 : decode cL_law 458 = .ok (.iadd, 1) := by decide +kernel
set_option maxRecDepth 20000 in
theorem dL_law_459 : decode cL_law 459 = .ok (.iaload, 1) := by decide +kernel
set_option maxRecDepth 20000 in
theorem dL_law_460 : decode cL_law 460 = .ok (.aload_n 0, 1) := by decide +kernel
set_option maxRecDepth 20000 in
theorem dL_law_461 : decode cL_law 461 = .ok (.iload_n 3, 1) := by decide +kernel
set_option maxRecDepth 20000 in
theorem dL_law_462 : decode cL_law 462 = .ok (.iconst 2, 1) := by decide +kernel
set_option maxRecDepth 20000 in
theorem dL_law_463 : decode cL_law 463 = .ok (.iadd, 1) := by decide +kernel
set_option maxRecDepth 20000 in
theorem dL_law_464 : decode cL_law 464 = .ok (.iaload, 1) := by decide +kernel
set_option maxRecDepth 20000 in
theorem dL_law_465 : decode cL_law 465 = .ok (.invokevirtual 57, 3) := by decide +kernel
set_option maxRecDepth 20000 in
theorem dL_law_468 : decode cL_law 468 = .ok (.aload_n 2, 1) := by decide +kernel
set_option maxRecDepth 20000 in
theorem dL_law_469 : decode cL_law 469 = .ok (.aload_n 0, 1) := by decide +kernel
set_option maxRecDepth 20000 in
theorem dL_law_470 : decode cL_law 470 = .ok (.iload_n 3, 1) := by decide +kernel
set_option maxRecDepth 20000 in
theorem dL_law_471 : decode cL_law 471 = .ok (.iconst 1, 1) := by decide +kernel
set_option maxRecDepth 20000 in
theorem dL_law_472 : decode cL_law 472 = .ok (.iadd, 1) := by decide +kernel
set_option maxRecDepth 20000 in
theorem dL_law_473 : decode cL_law 473 = .ok (.iaload, 1) := by decide +kernel
set_option maxRecDepth 20000 in
theorem dL_law_474 : decode cL_law 474 = .ok (.aload_n 0, 1) := by decide +kernel
set_option maxRecDepth 20000 in
theorem dL_law_475 : decode cL_law 475 = .ok (.iload_n 3, 1) := by decide +kernel
set_option maxRecDepth 20000 in
theorem dL_law_476 : decode cL_law 476 = .ok (.iconst 2, 1) := by decide +kernel
set_option maxRecDepth 20000 in
theorem dL_law_477 : decode cL_law 477 = .ok (.iadd, 1) := by decide +kernel
set_option maxRecDepth 20000 in
theorem dL_law_478 : decode cL_law 478 = .ok (.iaload, 1) := by decide +kernel
set_option maxRecDepth 20000 in
theorem dL_law_479 : decode cL_law 479 = .ok (.invokevirtual 60, 3) := by decide +kernel
set_option maxRecDepth 20000 in
theorem dL_law_482 : decode cL_law 482 = .ok (.if_icmp .eq 633, 3) := by decide +kernel
set_option maxRecDepth 20000 in
theorem dL_law_485 : decode cL_law 485 = .ok (.iconst 0, 1) := by decide +kernel
set_option maxRecDepth 20000 in
theorem dL_law_486 : decode cL_law 486 = .ok (.ireturn, 1) := by decide +kernel
set_option maxRecDepth 20000 in
theorem dL_law_487 : decode cL_law 487 = .ok (.aload_n 1, 1) := by decide +kernel
set_option maxRecDepth 20000 in
theorem dL_law_488 : decode cL_law 488 = .ok (.aload_n 0, 1) := by decide +kernel
set_option maxRecDepth 20000 in
theorem dL_law_489 : decode cL_law 489 = .ok (.iload_n 3, 1) := by decide +kernel
set_option maxRecDepth 20000 in
theorem dL_law_490 : decode cL_law 490 = .ok (.iconst 1, 1) := by decide +kernel
set_option maxRecDepth 20000 in
theorem dL_law_491 : decode cL_law 491 = .ok (.iadd, 1) := by decide +kernel
set_option maxRecDepth 20000 in
theorem dL_law_492 : decode cL_law 492 = .ok (.iaload, 1) := by decide +kernel
set_option maxRecDepth 20000 in
theorem dL_law_493 : decode cL_law 493 = .ok (.aload_n 0, 1) := by decide +kernel
set_option maxRecDepth 20000 in
theorem dL_law_494 : decode cL_law 494 = .ok (.iload_n 3, 1) := by decide +kernel
set_option maxRecDepth 20000 in
theorem dL_law_495 : decode cL_law 495 = .ok (.iconst 2, 1) := by decide +kernel
set_option maxRecDepth 20000 in
theorem dL_law_496 : decode cL_law 496 = .ok (.iadd, 1) := by decide +kernel
set_option maxRecDepth 20000 in
theorem dL_law_497 : decode cL_law 497 = .ok (.iaload, 1) := by decide +kernel
set_option maxRecDepth 20000 in
theorem dL_law_498 : decode cL_law 498 = .ok (.aload_n 0, 1) := by decide +kernel
set_option maxRecDepth 20000 in
theorem dL_law_499 : decode cL_law 499 = .ok (.iload_n 3, 1) := by decide +kernel
set_option maxRecDepth 20000 in
theorem dL_law_500 : decode cL_law 500 = .ok (.iconst 3, 1) := by decide +kernel
set_option maxRecDepth 20000 in
theorem dL_law_501 : decode cL_law 501 = .ok (.iadd, 1) := by decide +kernel
set_option maxRecDepth 20000 in
theorem dL_law_502 : decode cL_law 502 = .ok (.iaload, 1) := by decide +kernel
set_option maxRecDepth 20000 in
theorem dL_law_503 : decode cL_law 503 = .ok (.invokevirtual 61, 3) := by decide +kernel
set_option maxRecDepth 20000 in
theorem dL_law_506 : decode cL_law 506 = .ok (.aload_n 2, 1) := by decide +kernel
set_option maxRecDepth 20000 in
theorem dL_law_507 : decode cL_law 507 = .ok (.aload_n 0, 1) := by decide +kernel
set_option maxRecDepth 20000 in
theorem dL_law_508 : decode cL_law 508 = .ok (.iload_n 3, 1) := by decide +kernel
set_option maxRecDepth 20000 in
theorem dL_law_509 : decode cL_law 509 = .ok (.iconst 1, 1) := by decide +kernel
set_option maxRecDepth 20000 in
theorem dL_law_510 : decode cL_law 510 = .ok (.iadd, 1) := by decide +kernel
set_option maxRecDepth 20000 in
theorem dL_law_511 : decode cL_law 511 = .ok (.iaload, 1) := by decide +kernel
set_option maxRecDepth 20000 in
theorem dL_law_512 : decode cL_law 512 = .ok (.aload_n 0, 1) := by decide +kernel
set_option maxRecDepth 20000 in
theorem dL_law_513 : decode cL_law 513 = .ok (.iload_n 3, 1) := by decide +kernel
set_option maxRecDepth 20000 in
theorem dL_law_514 : decode cL_law 514 = .ok (.iconst 2, 1) := by decide +kernel
set_option maxRecDepth 20000 in
theorem dL_law_515 : decode cL_law 515 = .ok (.iadd, 1) := by decide +kernel
set_option maxRecDepth 20000 in
theorem dL_law_516 : decode cL_law 516 = .ok (.iaload, 1) := by decide +kernel
set_option maxRecDepth 20000 in
theorem dL_law_517 : decode cL_law 517 = .ok (.aload_n 0, 1) := by decide +kernel
set_option maxRecDepth 20000 in
theorem dL_law_518 : decode cL_law 518 = .ok (.iload_n 3, 1) := by decide +kernel
set_option maxRecDepth 20000 in
theorem dL_law_519 : decode cL_law 519 = .ok (.iconst 3, 1) := by decide +kernel
set_option maxRecDepth 20000 in
theorem dL_law_520 : decode cL_law 520 = .ok (.iadd, 1) := by decide +kernel
set_option maxRecDepth 20000 in
theorem dL_law_521 : decode cL_law 521 = .ok (.iaload, 1) := by decide +kernel
set_option maxRecDepth 20000 in
theorem dL_law_522 : decode cL_law 522 = .ok (.invokevirtual 64, 3) := by decide +kernel
set_option maxRecDepth 20000 in
theorem dL_law_525 : decode cL_law 525 = .ok (.if_icmp .eq 590, 3) := by decide +kernel
set_option maxRecDepth 20000 in
theorem dL_law_528 : decode cL_law 528 = .ok (.iconst 0, 1) := by decide +kernel
set_option maxRecDepth 20000 in
theorem dL_law_529 : decode cL_law 529 = .ok (.ireturn, 1) := by decide +kernel
set_option maxRecDepth 20000 in
theorem dL_law_530 : decode cL_law 530 = .ok (.aload_n 1, 1) := by decide +kernel
set_option maxRecDepth 20000 in
theorem dL_law_531 : decode cL_law 531 = .ok (.aload_n 0, 1) := by decide +kernel
set_option maxRecDepth 20000 in
theorem dL_law_532 : decode cL_law 532 = .ok (.iload_n 3, 1) := by decide +kernel
set_option maxRecDepth 20000 in
theorem dL_law_533 : decode cL_law 533 = .ok (.iconst 1, 1) := by decide +kernel
set_option maxRecDepth 20000 in
theorem dL_law_534 : decode cL_law 534 = .ok (.iadd, 1) := by decide +kernel
set_option maxRecDepth 20000 in
theorem dL_law_535 : decode cL_law 535 = .ok (.iaload, 1) := by decide +kernel
set_option maxRecDepth 20000 in
theorem dL_law_536 : decode cL_law 536 = .ok (.aload_n 0, 1) := by decide +kernel
set_option maxRecDepth 20000 in
theorem dL_law_537 : decode cL_law 537 = .ok (.iload_n 3, 1) := by decide +kernel
set_option maxRecDepth 20000 in
theorem dL_law_538 : decode cL_law 538 = .ok (.iconst 2, 1) := by decide +kernel
set_option maxRecDepth 20000 in
theorem dL_law_539 : decode cL_law 539 = .ok (.iadd, 1) := by decide +kernel
set_option maxRecDepth 20000 in
theorem dL_law_540 : decode cL_law 540 = .ok (.iaload, 1) := by decide +kernel
set_option maxRecDepth 20000 in
theorem dL_law_541 : decode cL_law 541 = .ok (.aload_n 0, 1) := by decide +kernel
set_option maxRecDepth 20000 in
theorem dL_law_542 : decode cL_law 542 = .ok (.iload_n 3, 1) := by decide +kernel
set_option maxRecDepth 20000 in
theorem dL_law_543 : decode cL_law 543 = .ok (.iconst 3, 1) := by decide +kernel
set_option maxRecDepth 20000 in
theorem dL_law_544 : decode cL_law 544 = .ok (.iadd, 1) := by decide +kernel
set_option maxRecDepth 20000 in
theorem dL_law_545 : decode cL_law 545 = .ok (.iaload, 1) := by decide +kernel
set_option maxRecDepth 20000 in
theorem dL_law_546 : decode cL_law 546 = .ok (.invokevirtual 65, 3) := by decide +kernel
set_option maxRecDepth 20000 in
theorem dL_law_549 : decode cL_law 549 = .ok (.aload_n 2, 1) := by decide +kernel
set_option maxRecDepth 20000 in
theorem dL_law_550 : decode cL_law 550 = .ok (.aload_n 0, 1) := by decide +kernel
set_option maxRecDepth 20000 in
theorem dL_law_551 : decode cL_law 551 = .ok (.iload_n 3, 1) := by decide +kernel
set_option maxRecDepth 20000 in
theorem dL_law_552 : decode cL_law 552 = .ok (.iconst 1, 1) := by decide +kernel
set_option maxRecDepth 20000 in
theorem dL_law_553 : decode cL_law 553 = .ok (.iadd, 1) := by decide +kernel
set_option maxRecDepth 20000 in
theorem dL_law_554 : decode cL_law 554 = .ok (.iaload, 1) := by decide +kernel
set_option maxRecDepth 20000 in
theorem dL_law_555 : decode cL_law 555 = .ok (.aload_n 0, 1) := by decide +kernel
set_option maxRecDepth 20000 in
theorem dL_law_556 : decode cL_law 556 = .ok (.iload_n 3, 1) := by decide +kernel
set_option maxRecDepth 20000 in
theorem dL_law_557 : decode cL_law 557 = .ok (.iconst 2, 1) := by decide +kernel
set_option maxRecDepth 20000 in
theorem dL_law_558 : decode cL_law 558 = .ok (.iadd, 1) := by decide +kernel
set_option maxRecDepth 20000 in
theorem dL_law_559 : decode cL_law 559 = .ok (.iaload, 1) := by decide +kernel
set_option maxRecDepth 20000 in
theorem dL_law_560 : decode cL_law 560 = .ok (.aload_n 0, 1) := by decide +kernel
set_option maxRecDepth 20000 in
theorem dL_law_561 : decode cL_law 561 = .ok (.iload_n 3, 1) := by decide +kernel
set_option maxRecDepth 20000 in
theorem dL_law_562 : decode cL_law 562 = .ok (.iconst 3, 1) := by decide +kernel
set_option maxRecDepth 20000 in
theorem dL_law_563 : decode cL_law 563 = .ok (.iadd, 1) := by decide +kernel
set_option maxRecDepth 20000 in
theorem dL_law_564 : decode cL_law 564 = .ok (.iaload, 1) := by decide +kernel
set_option maxRecDepth 20000 in
theorem dL_law_565 : decode cL_law 565 = .ok (.invokevirtual 68, 3) := by decide +kernel
set_option maxRecDepth 20000 in
theorem dL_law_568 : decode cL_law 568 = .ok (.if_icmp .eq 547, 3) := by decide +kernel
set_option maxRecDepth 20000 in
theorem dL_law_571 : decode cL_law 571 = .ok (.iconst 0, 1) := by decide +kernel
set_option maxRecDepth 20000 in
theorem dL_law_572 : decode cL_law 572 = .ok (.ireturn, 1) := by decide +kernel
set_option maxRecDepth 20000 in
theorem dL_law_573 : decode cL_law 573 = .ok (.aload_n 1, 1) := by decide +kernel
set_option maxRecDepth 20000 in
theorem dL_law_574 : decode cL_law 574 = .ok (.aload_n 0, 1) := by decide +kernel
set_option maxRecDepth 20000 in
theorem dL_law_575 : decode cL_law 575 = .ok (.iload_n 3, 1) := by decide +kernel
set_option maxRecDepth 20000 in
theorem dL_law_576 : decode cL_law 576 = .ok (.iconst 1, 1) := by decide +kernel
set_option maxRecDepth 20000 in
theorem dL_law_577 : decode cL_law 577 = .ok (.iadd, 1) := by decide +kernel
set_option maxRecDepth 20000 in
theorem dL_law_578 : decode cL_law 578 = .ok (.iaload, 1) := by decide +kernel
set_option maxRecDepth 20000 in
theorem dL_law_579 : decode cL_law 579 = .ok (.aload_n 0, 1) := by decide +kernel
set_option maxRecDepth 20000 in
theorem dL_law_580 : decode cL_law 580 = .ok (.iload_n 3, 1) := by decide +kernel
set_option maxRecDepth 20000 in
theorem dL_law_581 : decode cL_law 581 = .ok (.iconst 2, 1) := by decide +kernel
set_option maxRecDepth 20000 in
theorem dL_law_582 : decode cL_law 582 = .ok (.iadd, 1) := by decide +kernel
set_option maxRecDepth 20000 in
theorem dL_law_583 : decode cL_law 583 = .ok (.iaload, 1) := by decide +kernel
set_option maxRecDepth 20000 in
theorem dL_law_584 : decode cL_law 584 = .ok (.aload_n 0, 1) := by decide +kernel
set_option maxRecDepth 20000 in
theorem dL_law_585 : decode cL_law 585 = .ok (.iload_n 3, 1) := by decide +kernel
set_option maxRecDepth 20000 in
theorem dL_law_586 : decode cL_law 586 = .ok (.iconst 3, 1) := by decide +kernel
set_option maxRecDepth 20000 in
theorem dL_law_587 : decode cL_law 587 = .ok (.iadd, 1) := by decide +kernel
set_option maxRecDepth 20000 in
theorem dL_law_588 : decode cL_law 588 = .ok (.iaload, 1) := by decide +kernel
set_option maxRecDepth 20000 in
theorem dL_law_589 : decode cL_law 589 = .ok (.invokevirtual 69, 3) := by decide +kernel
set_option maxRecDepth 20000 in
theorem dL_law_592 : decode cL_law 592 = .ok (.aload_n 2, 1) := by decide +kernel
set_option maxRecDepth 20000 in
theorem dL_law_593 : decode cL_law 593 = .ok (.aload_n 0, 1) := by decide +kernel
set_option maxRecDepth 20000 in
theorem dL_law_594 : decode cL_law 594 = .ok (.iload_n 3, 1) := by decide +kernel
set_option maxRecDepth 20000 in
theorem dL_law_595 : decode cL_law 595 = .ok (.iconst 1, 1) := by decide +kernel
set_option maxRecDepth 20000 in
theorem dL_law_596 : decode cL_law 596 = .ok (.iadd, 1) := by decide +kernel
set_option maxRecDepth 20000 in
theorem dL_law_597 : decode cL_law 597 = .ok (.iaload, 1) := by decide +kernel
set_option maxRecDepth 20000 in
theorem dL_law_598 : decode cL_law 598 = .ok (.aload_n 0, 1) := by decide +kernel
set_option maxRecDepth 20000 in
theorem dL_law_599 : decode cL_law 599 = .ok (.iload_n 3, 1) := by decide +kernel
set_option maxRecDepth 20000 in
theorem dL_law_600 : decode cL_law 600 = .ok (.iconst 2, 1) := by decide +kernel
set_option maxRecDepth 20000 in
theorem dL_law_601 : decode cL_law 601 = .ok (.iadd, 1) := by decide +kernel
set_option maxRecDepth 20000 in
theorem dL_law_602 : decode cL_law 602 = .ok (.iaload, 1) := by decide +kernel
set_option maxRecDepth 20000 in
theorem dL_law_603 : decode cL_law 603 = .ok (.aload_n 0, 1) := by decide +kernel
set_option maxRecDepth 20000 in
theorem dL_law_604 : decode cL_law 604 = .ok (.iload_n 3, 1) := by decide +kernel
set_option maxRecDepth 20000 in
theorem dL_law_605 : decode cL_law 605 = .ok (.iconst 3, 1) := by decide +kernel
set_option maxRecDepth 20000 in
theorem dL_law_606 : decode cL_law 606 = .ok (.iadd, 1) := by decide +kernel
set_option maxRecDepth 20000 in
theorem dL_law_607 : decode cL_law 607 = .ok (.iaload, 1) := by decide +kernel
set_option maxRecDepth 20000 in
theorem dL_law_608 : decode cL_law 608 = .ok (.invokevirtual 72, 3) := by decide +kernel
set_option maxRecDepth 20000 in
theorem dL_law_611 : decode cL_law 611 = .ok (.if_icmp .eq 504, 3) := by decide +kernel
set_option maxRecDepth 20000 in
theorem dL_law_614 : decode cL_law 614 = .ok (.iconst 0, 1) := by decide +kernel
set_option maxRecDepth 20000 in
theorem dL_law_615 : decode cL_law 615 = .ok (.ireturn, 1) := by decide +kernel
set_option maxRecDepth 20000 in
theorem dL_law_616 : decode cL_law 616 = .ok (.aload_n 1, 1) := by decide +kernel
set_option maxRecDepth 20000 in
theorem dL_law_617 : decode cL_law 617 = .ok (.aload_n 0, 1) := by decide +kernel
set_option maxRecDepth 20000 in
theorem dL_law_618 : decode cL_law 618 = .ok (.iload_n 3, 1) := by decide +kernel
set_option maxRecDepth 20000 in
theorem dL_law_619 : decode cL_law 619 = .ok (.iconst 1, 1) := by decide +kernel
set_option maxRecDepth 20000 in
theorem dL_law_620 : decode cL_law 620 = .ok (.iadd, 1) := by decide +kernel
set_option maxRecDepth 20000 in
theorem dL_law_621 : decode cL_law 621 = .ok (.iaload, 1) := by decide +kernel
set_option maxRecDepth 20000 in
theorem dL_law_622 : decode cL_law 622 = .ok (.aload_n 0, 1) := by decide +kernel
set_option maxRecDepth 20000 in
theorem dL_law_623 : decode cL_law 623 = .ok (.iload_n 3, 1) := by decide +kernel
set_option maxRecDepth 20000 in
theorem dL_law_624 : decode cL_law 624 = .ok (.iconst 2, 1) := by decide +kernel
set_option maxRecDepth 20000 in
theorem dL_law_625 : decode cL_law 625 = .ok (.iadd, 1) := by decide +kernel
set_option maxRecDepth 20000 in
theorem dL_law_626 : decode cL_law 626 = .ok (.iaload, 1) := by decide +kernel
set_option maxRecDepth 20000 in
theorem dL_law_627 : decode cL_law 627 = .ok (.aload_n 0, 1) := by decide +kernel
set_option maxRecDepth 20000 in
theorem dL_law_628 : decode cL_law 628 = .ok (.iload_n 3, 1) := by decide +kernel
set_option maxRecDepth 20000 in
theorem dL_law_629 : decode cL_law 629 = .ok (.iconst 3, 1) := by decide +kernel
set_option maxRecDepth 20000 in
theorem dL_law_630 : decode cL_law 630 = .ok (.iadd, 1) := by decide +kernel
set_option maxRecDepth 20000 in
theorem dL_law_631 : decode cL_law 631 = .ok (.iaload, 1) := by decide +kernel
set_option maxRecDepth 20000 in
theorem dL_law_632 : decode cL_law 632 = .ok (.invokevirtual 73, 3) := by decide +kernel
set_option maxRecDepth 20000 in
theorem dL_law_635 : decode cL_law 635 = .ok (.aload_n 2, 1) := by decide +kernel
set_option maxRecDepth 20000 in
theorem dL_law_636 : decode cL_law 636 = .ok (.aload_n 0, 1) := by decide +kernel
set_option maxRecDepth 20000 in
theorem dL_law_637 : decode cL_law 637 = .ok (.iload_n 3, 1) := by decide +kernel
set_option maxRecDepth 20000 in
theorem dL_law_638 : decode cL_law 638 = .ok (.iconst 1, 1) := by decide +kernel
set_option maxRecDepth 20000 in
theorem dL_law_639 : decode cL_law 639 = .ok (.iadd, 1) := by decide +kernel
set_option maxRecDepth 20000 in
theorem dL_law_640 : decode cL_law 640 = .ok (.iaload, 1) := by decide +kernel
set_option maxRecDepth 20000 in
theorem dL_law_641 : decode cL_law 641 = .ok (.aload_n 0, 1) := by decide +kernel
set_option maxRecDepth 20000 in
theorem dL_law_642 : decode cL_law 642 = .ok (.iload_n 3, 1) := by decide +kernel
set_option maxRecDepth 20000 in
theorem dL_law_643 : decode cL_law 643 = .ok (.iconst 2, 1) := by decide +kernel
set_option maxRecDepth 20000 in
theorem dL_law_644 : decode cL_law 644 = .ok (.iadd, 1) := by decide +kernel
set_option maxRecDepth 20000 in
theorem dL_law_645 : decode cL_law 645 = .ok (.iaload, 1) := by decide +kernel
set_option maxRecDepth 20000 in
theorem dL_law_646 : decode cL_law 646 = .ok (.aload_n 0, 1) := by decide +kernel
set_option maxRecDepth 20000 in
theorem dL_law_647 : decode cL_law 647 = .ok (.iload_n 3, 1) := by decide +kernel
set_option maxRecDepth 20000 in
theorem dL_law_648 : decode cL_law 648 = .ok (.iconst 3, 1) := by decide +kernel
set_option maxRecDepth 20000 in
theorem dL_law_649 : decode cL_law 649 = .ok (.iadd, 1) := by decide +kernel
set_option maxRecDepth 20000 in
theorem dL_law_650 : decode cL_law 650 = .ok (.iaload, 1) := by decide +kernel
set_option maxRecDepth 20000 in
theorem dL_law_651 : decode cL_law 651 = .ok (.invokevirtual 76, 3) := by decide +kernel
set_option maxRecDepth 20000 in
theorem dL_law_654 : decode cL_law 654 = .ok (.if_icmp .eq 461, 3) := by decide +kernel
set_option maxRecDepth 20000 in
theorem dL_law_657 : decode cL_law 657 = .ok (.iconst 0, 1) := by decide +kernel
set_option maxRecDepth 20000 in
theorem dL_law_658 : decode cL_law 658 = .ok (.ireturn, 1) := by decide +kernel
set_option maxRecDepth 20000 in
theorem dL_law_659 : decode cL_law 659 = .ok (.aload_n 1, 1) := by decide +kernel
set_option maxRecDepth 20000 in
theorem dL_law_660 : decode cL_law 660 = .ok (.aload_n 0, 1) := by decide +kernel
set_option maxRecDepth 20000 in
theorem dL_law_661 : decode cL_law 661 = .ok (.iload_n 3, 1) := by decide +kernel
set_option maxRecDepth 20000 in
theorem dL_law_662 : decode cL_law 662 = .ok (.iconst 1, 1) := by decide +kernel
set_option maxRecDepth 20000 in
theorem dL_law_663 : decode cL_law 663 = .ok (.iadd, 1) := by decide +kernel
set_option maxRecDepth 20000 in
theorem dL_law_664 : decode cL_law 664 = .ok (.iaload, 1) := by decide +kernel
set_option maxRecDepth 20000 in
theorem dL_law_665 : decode cL_law 665 = .ok (.aload_n 0, 1) := by decide +kernel
set_option maxRecDepth 20000 in
theorem dL_law_666 : decode cL_law 666 = .ok (.iload_n 3, 1) := by decide +kernel
set_option maxRecDepth 20000 in
theorem dL_law_667 : decode cL_law 667 = .ok (.iconst 2, 1) := by decide +kernel
set_option maxRecDepth 20000 in
theorem dL_law_668 : decode cL_law 668 = .ok (.iadd, 1) := by decide +kernel
set_option maxRecDepth 20000 in
theorem dL_law_669 : decode cL_law 669 = .ok (.iaload, 1) := by decide +kernel
set_option maxRecDepth 20000 in
theorem dL_law_670 : decode cL_law 670 = .ok (.invokevirtual 77, 3) := by decide +kernel
set_option maxRecDepth 20000 in
theorem dL_law_673 : decode cL_law 673 = .ok (.aload_n 2, 1) := by decide +kernel
set_option maxRecDepth 20000 in
theorem dL_law_674 : decode cL_law 674 = .ok (.aload_n 0, 1) := by decide +kernel
set_option maxRecDepth 20000 in
theorem dL_law_675 : decode cL_law 675 = .ok (.iload_n 3, 1) := by decide +kernel
set_option maxRecDepth 20000 in
theorem dL_law_676 : decode cL_law 676 = .ok (.iconst 1, 1) := by decide +kernel
set_option maxRecDepth 20000 in
theorem dL_law_677 : decode cL_law 677 = .ok (.iadd, 1) := by decide +kernel
set_option maxRecDepth 20000 in
theorem dL_law_678 : decode cL_law 678 = .ok (.iaload, 1) := by decide +kernel
set_option maxRecDepth 20000 in
theorem dL_law_679 : decode cL_law 679 = .ok (.aload_n 0, 1) := by decide +kernel
set_option maxRecDepth 20000 in
theorem dL_law_680 : decode cL_law 680 = .ok (.iload_n 3, 1) := by decide +kernel
set_option maxRecDepth 20000 in
theorem dL_law_681 : decode cL_law 681 = .ok (.iconst 2, 1) := by decide +kernel
set_option maxRecDepth 20000 in
theorem dL_law_682 : decode cL_law 682 = .ok (.iadd, 1) := by decide +kernel
set_option maxRecDepth 20000 in
theorem dL_law_683 : decode cL_law 683 = .ok (.iaload, 1) := by decide +kernel
set_option maxRecDepth 20000 in
theorem dL_law_684 : decode cL_law 684 = .ok (.invokevirtual 80, 3) := by decide +kernel
set_option maxRecDepth 20000 in
theorem dL_law_687 : decode cL_law 687 = .ok (.if_icmp .eq 428, 3) := by decide +kernel
set_option maxRecDepth 20000 in
theorem dL_law_690 : decode cL_law 690 = .ok (.iconst 0, 1) := by decide +kernel
set_option maxRecDepth 20000 in
theorem dL_law_691 : decode cL_law 691 = .ok (.ireturn, 1) := by decide +kernel
set_option maxRecDepth 20000 in
theorem dL_law_692 : decode cL_law 692 = .ok (.aload_n 1, 1) := by decide +kernel
set_option maxRecDepth 20000 in
theorem dL_law_693 : decode cL_law 693 = .ok (.aload_n 0, 1) := by decide +kernel
set_option maxRecDepth 20000 in
theorem dL_law_694 : decode cL_law 694 = .ok (.iload_n 3, 1) := by decide +kernel
set_option maxRecDepth 20000 in
theorem dL_law_695 : decode cL_law 695 = .ok (.iconst 1, 1) := by decide +kernel
set_option maxRecDepth 20000 in
theorem dL_law_696 : decode cL_law 696 = .ok (.iadd, 1) := by decide +kernel
set_option maxRecDepth 20000 in
theorem dL_law_697 : decode cL_law 697 = .ok (.iaload, 1) := by decide +kernel
set_option maxRecDepth 20000 in
theorem dL_law_698 : decode cL_law 698 = .ok (.aload_n 0, 1) := by decide +kernel
set_option maxRecDepth 20000 in
theorem dL_law_699 : decode cL_law 699 = .ok (.iload_n 3, 1) := by decide +kernel
set_option maxRecDepth 20000 in
theorem dL_law_700 : decode cL_law 700 = .ok (.iconst 2, 1) := by decide +kernel
set_option maxRecDepth 20000 in
theorem dL_law_701 : decode cL_law 701 = .ok (.iadd, 1) := by decide +kernel
set_option maxRecDepth 20000 in
theorem dL_law_702 : decode cL_law 702 = .ok (.iaload, 1) := by decide +kernel
set_option maxRecDepth 20000 in
theorem dL_law_703 : decode cL_law 703 = .ok (.invokevirtual 81, 3) := by decide +kernel
set_option maxRecDepth 20000 in
theorem dL_law_706 : decode cL_law 706 = .ok (.aload_n 2, 1) := by decide +kernel
set_option maxRecDepth 20000 in
theorem dL_law_707 : decode cL_law 707 = .ok (.aload_n 0, 1) := by decide +kernel
set_option maxRecDepth 20000 in
theorem dL_law_708 : decode cL_law 708 = .ok (.iload_n 3, 1) := by decide +kernel
set_option maxRecDepth 20000 in
theorem dL_law_709 : decode cL_law 709 = .ok (.iconst 1, 1) := by decide +kernel
set_option maxRecDepth 20000 in
theorem dL_law_710 : decode cL_law 710 = .ok (.iadd, 1) := by decide +kernel
set_option maxRecDepth 20000 in
theorem dL_law_711 : decode cL_law 711 = .ok (.iaload, 1) := by decide +kernel
set_option maxRecDepth 20000 in
theorem dL_law_712 : decode cL_law 712 = .ok (.aload_n 0, 1) := by decide +kernel
set_option maxRecDepth 20000 in
theorem dL_law_713 : decode cL_law 713 = .ok (.iload_n 3, 1) := by decide +kernel
set_option maxRecDepth 20000 in
theorem dL_law_714 : decode cL_law 714 = .ok (.iconst 2, 1) := by decide +kernel
set_option maxRecDepth 20000 in
theorem dL_law_715 : decode cL_law 715 = .ok (.iadd, 1) := by decide +kernel
set_option maxRecDepth 20000 in
theorem dL_law_716 : decode cL_law 716 = .ok (.iaload, 1) := by decide +kernel
set_option maxRecDepth 20000 in
theorem dL_law_717 : decode cL_law 717 = .ok (.invokevirtual 84, 3) := by decide +kernel
set_option maxRecDepth 20000 in
theorem dL_law_720 : decode cL_law 720 = .ok (.if_icmp .eq 395, 3) := by decide +kernel
set_option maxRecDepth 20000 in
theorem dL_law_723 : decode cL_law 723 = .ok (.iconst 0, 1) := by decide +kernel
set_option maxRecDepth 20000 in
theorem dL_law_724 : decode cL_law 724 = .ok (.ireturn, 1) := by decide +kernel
set_option maxRecDepth 20000 in
theorem dL_law_725 : decode cL_law 725 = .ok (.aload_n 1, 1) := by decide +kernel
set_option maxRecDepth 20000 in
theorem dL_law_726 : decode cL_law 726 = .ok (.aload_n 0, 1) := by decide +kernel
set_option maxRecDepth 20000 in
theorem dL_law_727 : decode cL_law 727 = .ok (.iload_n 3, 1) := by decide +kernel
set_option maxRecDepth 20000 in
theorem dL_law_728 : decode cL_law 728 = .ok (.iconst 1, 1) := by decide +kernel
set_option maxRecDepth 20000 in
theorem dL_law_729 : decode cL_law 729 = .ok (.iadd, 1) := by decide +kernel
set_option maxRecDepth 20000 in
theorem dL_law_730 : decode cL_law 730 = .ok (.iaload, 1) := by decide +kernel
set_option maxRecDepth 20000 in
theorem dL_law_731 : decode cL_law 731 = .ok (.aload_n 0, 1) := by decide +kernel
set_option maxRecDepth 20000 in
theorem dL_law_732 : decode cL_law 732 = .ok (.iload_n 3, 1) := by decide +kernel
set_option maxRecDepth 20000 in
theorem dL_law_733 : decode cL_law 733 = .ok (.iconst 2, 1) := by decide +kernel
set_option maxRecDepth 20000 in
theorem dL_law_734 : decode cL_law 734 = .ok (.iadd, 1) := by decide +kernel
set_option maxRecDepth 20000 in
theorem dL_law_735 : decode cL_law 735 = .ok (.iaload, 1) := by decide +kernel
set_option maxRecDepth 20000 in
theorem dL_law_736 : decode cL_law 736 = .ok (.invokevirtual 85, 3) := by decide +kernel
set_option maxRecDepth 20000 in
theorem dL_law_739 : decode cL_law 739 = .ok (.aload_n 2, 1) := by decide +kernel
set_option maxRecDepth 20000 in
theorem dL_law_740 : decode cL_law 740 = .ok (.aload_n 0, 1) := by decide +kernel
set_option maxRecDepth 20000 in
theorem dL_law_741 : decode cL_law 741 = .ok (.iload_n 3, 1) := by decide +kernel
set_option maxRecDepth 20000 in
theorem dL_law_742 : decode cL_law 742 = .ok (.iconst 1, 1) := by decide +kernel
set_option maxRecDepth 20000 in
theorem dL_law_743 : decode cL_law 743 = .ok (.iadd, 1) := by decide +kernel
set_option maxRecDepth 20000 in
theorem dL_law_744 : decode cL_law 744 = .ok (.iaload, 1) := by decide +kernel
set_option maxRecDepth 20000 in
theorem dL_law_745 : decode cL_law 745 = .ok (.aload_n 0, 1) := by decide +kernel
set_option maxRecDepth 20000 in
theorem dL_law_746 : decode cL_law 746 = .ok (.iload_n 3, 1) := by decide +kernel
set_option maxRecDepth 20000 in
theorem dL_law_747 : decode cL_law 747 = .ok (.iconst 2, 1) := by decide +kernel
set_option maxRecDepth 20000 in
theorem dL_law_748 : decode cL_law 748 = .ok (.iadd, 1) := by decide +kernel
set_option maxRecDepth 20000 in
theorem dL_law_749 : decode cL_law 749 = .ok (.iaload, 1) := by decide +kernel
set_option maxRecDepth 20000 in
theorem dL_law_750 : decode cL_law 750 = .ok (.invokevirtual 88, 3) := by decide +kernel
set_option maxRecDepth 20000 in
theorem dL_law_753 : decode cL_law 753 = .ok (.if_icmp .eq 362, 3) := by decide +kernel
set_option maxRecDepth 20000 in
theorem dL_law_756 : decode cL_law 756 = .ok (.iconst 0, 1) := by decide +kernel
set_option maxRecDepth 20000 in
theorem dL_law_757 : decode cL_law 757 = .ok (.ireturn, 1) := by decide +kernel
set_option maxRecDepth 20000 in
theorem dL_law_758 : decode cL_law 758 = .ok (.aload_n 1, 1) := by decide +kernel
set_option maxRecDepth 20000 in
theorem dL_law_759 : decode cL_law 759 = .ok (.aload_n 0, 1) := by decide +kernel
set_option maxRecDepth 20000 in
theorem dL_law_760 : decode cL_law 760 = .ok (.iload_n 3, 1) := by decide +kernel
set_option maxRecDepth 20000 in
theorem dL_law_761 : decode cL_law 761 = .ok (.iconst 1, 1) := by decide +kernel
set_option maxRecDepth 20000 in
theorem dL_law_762 : decode cL_law 762 = .ok (.iadd, 1) := by decide +kernel
set_option maxRecDepth 20000 in
theorem dL_law_763 : decode cL_law 763 = .ok (.iaload, 1) := by decide +kernel
set_option maxRecDepth 20000 in
theorem dL_law_764 : decode cL_law 764 = .ok (.aload_n 0, 1) := by decide +kernel
set_option maxRecDepth 20000 in
theorem dL_law_765 : decode cL_law 765 = .ok (.iload_n 3, 1) := by decide +kernel
set_option maxRecDepth 20000 in
theorem dL_law_766 : decode cL_law 766 = .ok (.iconst 2, 1) := by decide +kernel
set_option maxRecDepth 20000 in
theorem dL_law_767 : decode cL_law 767 = .ok (.iadd, 1) := by decide +kernel
set_option maxRecDepth 20000 in
theorem dL_law_768 : decode cL_law 768 = .ok (.iaload, 1) := by decide +kernel
set_option maxRecDepth 20000 in
theorem dL_law_769 : decode cL_law 769 = .ok (.invokevirtual 89, 3) := by decide +kernel
set_option maxRecDepth 20000 in
theorem dL_law_772 : decode cL_law 772 = .ok (.aload_n 2, 1) := by decide +kernel
set_option maxRecDepth 20000 in
theorem dL_law_773 : decode cL_law 773 = .ok (.aload_n 0, 1) := by decide +kernel
set_option maxRecDepth 20000 in
theorem dL_law_774 : decode cL_law 774 = .ok (.iload_n 3, 1) := by decide +kernel
set_option maxRecDepth 20000 in
theorem dL_law_775 : decode cL_law 775 = .ok (.iconst 1, 1) := by decide +kernel
set_option maxRecDepth 20000 in
theorem dL_law_776 : decode cL_law 776 = .ok (.iadd, 1) := by decide +kernel
set_option maxRecDepth 20000 in
theorem dL_law_777 : decode cL_law 777 = .ok (.iaload, 1) := by decide +kernel
set_option maxRecDepth 20000 in
theorem dL_law_778 : decode cL_law 778 = .ok (.aload_n 0, 1) := by decide +kernel
set_option maxRecDepth 20000 in
theorem dL_law_779 : decode cL_law 779 = .ok (.iload_n 3, 1) := by decide +kernel
set_option maxRecDepth 20000 in
theorem dL_law_780 : decode cL_law 780 = .ok (.iconst 2, 1) := by decide +kernel
set_option maxRecDepth 20000 in
theorem dL_law_781 : decode cL_law 781 = .ok (.iadd, 1) := by decide +kernel
set_option maxRecDepth 20000 in
theorem dL_law_782 : decode cL_law 782 = .ok (.iaload, 1) := by decide +kernel
set_option maxRecDepth 20000 in
theorem dL_law_783 : decode cL_law 783 = .ok (.invokevirtual 92, 3) := by decide +kernel
set_option maxRecDepth 20000 in
theorem dL_law_786 : decode cL_law 786 = .ok (.if_icmp .eq 329, 3) := by decide +kernel
set_option maxRecDepth 20000 in
theorem dL_law_789 : decode cL_law 789 = .ok (.iconst 0, 1) := by decide +kernel
set_option maxRecDepth 20000 in
theorem dL_law_790 : decode cL_law 790 = .ok (.ireturn, 1) := by decide +kernel
set_option maxRecDepth 20000 in
theorem dL_law_791 : decode cL_law 791 = .ok (.aload_n 1, 1) := by decide +kernel
set_option maxRecDepth 20000 in
theorem dL_law_792 : decode cL_law 792 = .ok (.aload_n 0, 1) := by decide +kernel
set_option maxRecDepth 20000 in
theorem dL_law_793 : decode cL_law 793 = .ok (.iload_n 3, 1) := by decide +kernel
set_option maxRecDepth 20000 in
theorem dL_law_794 : decode cL_law 794 = .ok (.iconst 1, 1) := by decide +kernel
set_option maxRecDepth 20000 in
theorem dL_law_795 : decode cL_law 795 = .ok (.iadd, 1) := by decide +kernel
set_option maxRecDepth 20000 in
theorem dL_law_796 : decode cL_law 796 = .ok (.iaload, 1) := by decide +kernel
set_option maxRecDepth 20000 in
theorem dL_law_797 : decode cL_law 797 = .ok (.aload_n 0, 1) := by decide +kernel
set_option maxRecDepth 20000 in
theorem dL_law_798 : decode cL_law 798 = .ok (.iload_n 3, 1) := by decide +kernel
set_option maxRecDepth 20000 in
theorem dL_law_799 : decode cL_law 799 = .ok (.iconst 2, 1) := by decide +kernel
set_option maxRecDepth 20000 in
theorem dL_law_800 : decode cL_law 800 = .ok (.iadd, 1) := by decide +kernel
set_option maxRecDepth 20000 in
theorem dL_law_801 : decode cL_law 801 = .ok (.iaload, 1) := by decide +kernel
set_option maxRecDepth 20000 in
theorem dL_law_802 : decode cL_law 802 = .ok (.invokevirtual 93, 3) := by decide +kernel
set_option maxRecDepth 20000 in
theorem dL_law_805 : decode cL_law 805 = .ok (.aload_n 2, 1) := by decide +kernel
set_option maxRecDepth 20000 in
theorem dL_law_806 : decode cL_law 806 = .ok (.aload_n 0, 1) := by decide +kernel
set_option maxRecDepth 20000 in
theorem dL_law_807 : decode cL_law 807 = .ok (.iload_n 3, 1) := by decide +kernel
set_option maxRecDepth 20000 in
theorem dL_law_808 : decode cL_law 808 = .ok (.iconst 1, 1) := by decide +kernel
set_option maxRecDepth 20000 in
theorem dL_law_809 : decode cL_law 809 = .ok (.iadd, 1) := by decide +kernel
set_option maxRecDepth 20000 in
theorem dL_law_810 : decode cL_law 810 = .ok (.iaload, 1) := by decide +kernel
set_option maxRecDepth 20000 in
theorem dL_law_811 : decode cL_law 811 = .ok (.aload_n 0, 1) := by decide +kernel
set_option maxRecDepth 20000 in
theorem dL_law_812 : decode cL_law 812 = .ok (.iload_n 3, 1) := by decide +kernel
set_option maxRecDepth 20000 in
theorem dL_law_813 : decode cL_law 813 = .ok (.iconst 2, 1) := by decide +kernel
set_option maxRecDepth 20000 in
theorem dL_law_814 : decode cL_law 814 = .ok (.iadd, 1) := by decide +kernel
set_option maxRecDepth 20000 in
theorem dL_law_815 : decode cL_law 815 = .ok (.iaload, 1) := by decide +kernel
set_option maxRecDepth 20000 in
theorem dL_law_816 : decode cL_law 816 = .ok (.invokevirtual 96, 3) := by decide +kernel
set_option maxRecDepth 20000 in
theorem dL_law_819 : decode cL_law 819 = .ok (.if_icmp .eq 296, 3) := by decide +kernel
set_option maxRecDepth 20000 in
theorem dL_law_822 : decode cL_law 822 = .ok (.iconst 0, 1) := by decide +kernel
set_option maxRecDepth 20000 in
theorem dL_law_823 : decode cL_law 823 = .ok (.ireturn, 1) := by decide +kernel
set_option maxRecDepth 20000 in
theorem dL_law_824 : decode cL_law 824 = .ok (.aload_n 1, 1) := by decide +kernel
set_option maxRecDepth 20000 in
theorem dL_law_825 : decode cL_law 825 = .ok (.aload_n 0, 1) := by decide +kernel
set_option maxRecDepth 20000 in
theorem dL_law_826 : decode cL_law 826 = .ok (.iload_n 3, 1) := by decide +kernel
set_option maxRecDepth 20000 in
theorem dL_law_827 : decode cL_law 827 = .ok (.iconst 1, 1) := by decide +kernel
set_option maxRecDepth 20000 in
theorem dL_law_828 : decode cL_law 828 = .ok (.iadd, 1) := by decide +kernel
set_option maxRecDepth 20000 in
theorem dL_law_829 : decode cL_law 829 = .ok (.iaload, 1) := by decide +kernel
set_option maxRecDepth 20000 in
theorem dL_law_830 : decode cL_law 830 = .ok (.aload_n 0, 1) := by decide +kernel
set_option maxRecDepth 20000 in
theorem dL_law_831 : decode cL_law 831 = .ok (.iload_n 3, 1) := by decide +kernel
set_option maxRecDepth 20000 in
theorem dL_law_832 : decode cL_law 832 = .ok (.iconst 2, 1) := by decide +kernel
set_option maxRecDepth 20000 in
theorem dL_law_833 : decode cL_law 833 = .ok (.iadd, 1) := by decide +kernel
set_option maxRecDepth 20000 in
theorem dL_law_834 : decode cL_law 834 = .ok (.iaload, 1) := by decide +kernel
set_option maxRecDepth 20000 in
theorem dL_law_835 : decode cL_law 835 = .ok (.invokevirtual 97, 3) := by decide +kernel
set_option maxRecDepth 20000 in
theorem dL_law_838 : decode cL_law 838 = .ok (.aload_n 2, 1) := by decide +kernel
set_option maxRecDepth 20000 in
theorem dL_law_839 : decode cL_law 839 = .ok (.aload_n 0, 1) := by decide +kernel
set_option maxRecDepth 20000 in
theorem dL_law_840 : decode cL_law 840 = .ok (.iload_n 3, 1) := by decide +kernel
set_option maxRecDepth 20000 in
theorem dL_law_841 : decode cL_law 841 = .ok (.iconst 1, 1) := by decide +kernel
set_option maxRecDepth 20000 in
theorem dL_law_842 : decode cL_law 842 = .ok (.iadd, 1) := by decide +kernel
set_option maxRecDepth 20000 in
theorem dL_law_843 : decode cL_law 843 = .ok (.iaload, 1) := by decide +kernel
set_option maxRecDepth 20000 in
theorem dL_law_844 : decode cL_law 844 = .ok (.aload_n 0, 1) := by decide +kernel
set_option maxRecDepth 20000 in
theorem dL_law_845 : decode cL_law 845 = .ok (.iload_n 3, 1) := by decide +kernel
set_option maxRecDepth 20000 in
theorem dL_law_846 : decode cL_law 846 = .ok (.iconst 2, 1) := by decide +kernel
set_option maxRecDepth 20000 in
theorem dL_law_847 : decode cL_law 847 = .ok (.iadd, 1) := by decide +kernel
set_option maxRecDepth 20000 in
theorem dL_law_848 : decode cL_law 848 = .ok (.iaload, 1) := by decide +kernel
set_option maxRecDepth 20000 in
theorem dL_law_849 : decode cL_law 849 = .ok (.invokevirtual 100, 3) := by decide +kernel
set_option maxRecDepth 20000 in
theorem dL_law_852 : decode cL_law 852 = .ok (.if_icmp .eq 263, 3) := by decide +kernel
set_option maxRecDepth 20000 in
theorem dL_law_855 : decode cL_law 855 = .ok (.iconst 0, 1) := by decide +kernel
set_option maxRecDepth 20000 in
theorem dL_law_856 : decode cL_law 856 = .ok (.ireturn, 1) := by decide +kernel
set_option maxRecDepth 20000 in
theorem dL_law_857 : decode cL_law 857 = .ok (.aload_n 1, 1) := by decide +kernel
set_option maxRecDepth 20000 in
theorem dL_law_858 : decode cL_law 858 = .ok (.aload_n 0, 1) := by decide +kernel
set_option maxRecDepth 20000 in
theorem dL_law_859 : decode cL_law 859 = .ok (.iload_n 3, 1) := by decide +kernel
set_option maxRecDepth 20000 in
theorem dL_law_860 : decode cL_law 860 = .ok (.iconst 1, 1) := by decide +kernel
set_option maxRecDepth 20000 in
theorem dL_law_861 : decode cL_law 861 = .ok (.iadd, 1) := by decide +kernel
set_option maxRecDepth 20000 in
theorem dL_law_862 : decode cL_law 862 = .ok (.iaload, 1) := by decide +kernel
set_option maxRecDepth 20000 in
theorem dL_law_863 : decode cL_law 863 = .ok (.aload_n 0, 1) := by decide +kernel
set_option maxRecDepth 20000 in
theorem dL_law_864 : decode cL_law 864 = .ok (.iload_n 3, 1) := by decide +kernel
set_option maxRecDepth 20000 in
theorem dL_law_865 : decode cL_law 865 = .ok (.iconst 2, 1) := by decide +kernel
set_option maxRecDepth 20000 in
theorem dL_law_866 : decode cL_law 866 = .ok (.iadd, 1) := by decide +kernel
set_option maxRecDepth 20000 in
theorem dL_law_867 : decode cL_law 867 = .ok (.iaload, 1) := by decide +kernel
set_option maxRecDepth 20000 in
theorem dL_law_868 : decode cL_law 868 = .ok (.aload_n 0, 1) := by decide +kernel
set_option maxRecDepth 20000 in
theorem dL_law_869 : decode cL_law 869 = .ok (.iload_n 3, 1) := by decide +kernel
set_option maxRecDepth 20000 in
theorem dL_law_870 : decode cL_law 870 = .ok (.iconst 3, 1) := by decide +kernel
set_option maxRecDepth 20000 in
theorem dL_law_871 : decode cL_law 871 = .ok (.iadd, 1) := by decide +kernel
set_option maxRecDepth 20000 in
theorem dL_law_872 : decode cL_law 872 = .ok (.iaload, 1) := by decide +kernel
set_option maxRecDepth 20000 in
theorem dL_law_873 : decode cL_law 873 = .ok (.aload_n 0, 1) := by decide +kernel
set_option maxRecDepth 20000 in
theorem dL_law_874 : decode cL_law 874 = .ok (.iload_n 3, 1) := by decide +kernel
set_option maxRecDepth 20000 in
theorem dL_law_875 : decode cL_law 875 = .ok (.iconst 4, 1) := by decide +kernel
set_option maxRecDepth 20000 in
theorem dL_law_876 : decode cL_law 876 = .ok (.iadd, 1) := by decide +kernel
set_option maxRecDepth 20000 in
theorem dL_law_877 : decode cL_law 877 = .ok (.iaload, 1) := by decide +kernel
set_option maxRecDepth 20000 in
theorem dL_law_878 : decode cL_law 878 = .ok (.invokevirtual 101, 3) := by decide +kernel
set_option maxRecDepth 20000 in
theorem dL_law_881 : decode cL_law 881 = .ok (.aload_n 2, 1) := by decide +kernel
set_option maxRecDepth 20000 in
theorem dL_law_882 : decode cL_law 882 = .ok (.aload_n 0, 1) := by decide +kernel
set_option maxRecDepth 20000 in
theorem dL_law_883 : decode cL_law 883 = .ok (.iload_n 3, 1) := by decide +kernel
set_option maxRecDepth 20000 in
theorem dL_law_884 : decode cL_law 884 = .ok (.iconst 1, 1) := by decide +kernel
set_option maxRecDepth 20000 in
theorem dL_law_885 : decode cL_law 885 = .ok (.iadd, 1) := by decide +kernel
set_option maxRecDepth 20000 in
theorem dL_law_886 : decode cL_law 886 = .ok (.iaload, 1) := by decide +kernel
set_option maxRecDepth 20000 in
theorem dL_law_887 : decode cL_law 887 = .ok (.aload_n 0, 1) := by decide +kernel
set_option maxRecDepth 20000 in
theorem dL_law_888 : decode cL_law 888 = .ok (.iload_n 3, 1) := by decide +kernel
set_option maxRecDepth 20000 in
theorem dL_law_889 : decode cL_law 889 = .ok (.iconst 2, 1) := by decide +kernel
set_option maxRecDepth 20000 in
theorem dL_law_890 : decode cL_law 890 = .ok (.iadd, 1) := by decide +kernel
set_option maxRecDepth 20000 in
theorem dL_law_891 : decode cL_law 891 = .ok (.iaload, 1) := by decide +kernel
set_option maxRecDepth 20000 in
theorem dL_law_892 : decode cL_law 892 = .ok (.aload_n 0, 1) := by decide +kernel
set_option maxRecDepth 20000 in
theorem dL_law_893 : decode cL_law 893 = .ok (.iload_n 3, 1) := by decide +kernel
set_option maxRecDepth 20000 in
theorem dL_law_894 : decode cL_law 894 = .ok (.iconst 3, 1) := by decide +kernel
set_option maxRecDepth 20000 in
theorem dL_law_895 : decode cL_law 895 = .ok (.iadd, 1) := by decide +kernel
set_option maxRecDepth 20000 in
theorem dL_law_896 : decode cL_law 896 = .ok (.iaload, 1) := by decide +kernel
set_option maxRecDepth 20000 in
theorem dL_law_897 : decode cL_law 897 = .ok (.aload_n 0, 1) := by decide +kernel
set_option maxRecDepth 20000 in
theorem dL_law_898 : decode cL_law 898 = .ok (.iload_n 3, 1) := by decide +kernel
set_option maxRecDepth 20000 in
theorem dL_law_899 : decode cL_law 899 = .ok (.iconst 4, 1) := by decide +kernel
set_option maxRecDepth 20000 in
theorem dL_law_900 : decode cL_law 900 = .ok (.iadd, 1) := by decide +kernel
set_option maxRecDepth 20000 in
theorem dL_law_901 : decode cL_law 901 = .ok (.iaload, 1) := by decide +kernel
set_option maxRecDepth 20000 in
theorem dL_law_902 : decode cL_law 902 = .ok (.invokevirtual 105, 3) := by decide +kernel
set_option maxRecDepth 20000 in
theorem dL_law_905 : decode cL_law 905 = .ok (.lcmp, 1) := by decide +kernel
set_option maxRecDepth 20000 in
theorem dL_law_906 : decode cL_law 906 = .ok (.ifCond .eq 209, 3) := by decide +kernel
set_option maxRecDepth 20000 in
theorem dL_law_909 : decode cL_law 909 = .ok (.iconst 0, 1) := by decide +kernel
set_option maxRecDepth 20000 in
theorem dL_law_910 : decode cL_law 910 = .ok (.ireturn, 1) := by decide +kernel
set_option maxRecDepth 20000 in
theorem dL_law_911 : decode cL_law 911 = .ok (.aload_n 1, 1) := by decide +kernel
set_option maxRecDepth 20000 in
theorem dL_law_912 : decode cL_law 912 = .ok (.aload_n 0, 1) := by decide +kernel
set_option maxRecDepth 20000 in
theorem dL_law_913 : decode cL_law 913 = .ok (.iload_n 3, 1) := by decide +kernel
set_option maxRecDepth 20000 in
theorem dL_law_914 : decode cL_law 914 = .ok (.iconst 1, 1) := by decide +kernel
set_option maxRecDepth 20000 in
theorem dL_law_915 : decode cL_law 915 = .ok (.iadd, 1) := by decide +kernel
set_option maxRecDepth 20000 in
theorem dL_law_916 : decode cL_law 916 = .ok (.iaload, 1) := by decide +kernel
set_option maxRecDepth 20000 in
theorem dL_law_917 : decode cL_law 917 = .ok (.aload_n 0, 1) := by decide +kernel
set_option maxRecDepth 20000 in
theorem dL_law_918 : decode cL_law 918 = .ok (.iload_n 3, 1) := by decide +kernel
set_option maxRecDepth 20000 in
theorem dL_law_919 : decode cL_law 919 = .ok (.iconst 2, 1) := by decide +kernel
set_option maxRecDepth 20000 in
theorem dL_law_920 : decode cL_law 920 = .ok (.iadd, 1) := by decide +kernel
set_option maxRecDepth 20000 in
theorem dL_law_921 : decode cL_law 921 = .ok (.iaload, 1) := by decide +kernel
set_option maxRecDepth 20000 in
theorem dL_law_922 : decode cL_law 922 = .ok (.aload_n 0, 1) := by decide +kernel
set_option maxRecDepth 20000 in
theorem dL_law_923 : decode cL_law 923 = .ok (.iload_n 3, 1) := by decide +kernel
set_option maxRecDepth 20000 in
theorem dL_law_924 : decode cL_law 924 = .ok (.iconst 3, 1) := by decide +kernel
set_option maxRecDepth 20000 in
theorem dL_law_925 : decode cL_law 925 = .ok (.iadd, 1) := by decide +kernel
set_option maxRecDepth 20000 in
theorem dL_law_926 : decode cL_law 926 = .ok (.iaload, 1) := by decide +kernel
set_option maxRecDepth 20000 in
theorem dL_law_927 : decode cL_law 927 = .ok (.invokevirtual 106, 3) := by decide +kernel
set_option maxRecDepth 20000 in
theorem dL_law_930 : decode cL_law 930 = .ok (.aload_n 2, 1) := by decide +kernel
set_option maxRecDepth 20000 in
theorem dL_law_931 : decode cL_law 931 = .ok (.aload_n 0, 1) := by decide +kernel
set_option maxRecDepth 20000 in
theorem dL_law_932 : decode cL_law 932 = .ok (.iload_n 3, 1) := by decide +kernel
set_option maxRecDepth 20000 in
theorem dL_law_933 : decode cL_law 933 = .ok (.iconst 1, 1) := by decide +kernel
set_option maxRecDepth 20000 in
theorem dL_law_934 : decode cL_law 934 = .ok (.iadd, 1) := by decide +kernel
set_option maxRecDepth 20000 in
theorem dL_law_935 : decode cL_law 935 = .ok (.iaload, 1) := by decide +kernel
set_option maxRecDepth 20000 in
theorem dL_law_936 : decode cL_law 936 = .ok (.aload_n 0, 1) := by decide +kernel
set_option maxRecDepth 20000 in
theorem dL_law_937 : decode cL_law 937 = .ok (.iload_n 3, 1) := by decide +kernel
set_option maxRecDepth 20000 in
theorem dL_law_938 : decode cL_law 938 = .ok (.iconst 2, 1) := by decide +kernel
set_option maxRecDepth 20000 in
theorem dL_law_939 : decode cL_law 939 = .ok (.iadd, 1) := by decide +kernel
set_option maxRecDepth 20000 in
theorem dL_law_940 : decode cL_law 940 = .ok (.iaload, 1) := by decide +kernel
set_option maxRecDepth 20000 in
theorem dL_law_941 : decode cL_law 941 = .ok (.aload_n 0, 1) := by decide +kernel
set_option maxRecDepth 20000 in
theorem dL_law_942 : decode cL_law 942 = .ok (.iload_n 3, 1) := by decide +kernel
set_option maxRecDepth 20000 in
theorem dL_law_943 : decode cL_law 943 = .ok (.iconst 3, 1) := by decide +kernel
set_option maxRecDepth 20000 in
theorem dL_law_944 : decode cL_law 944 = .ok (.iadd, 1) := by decide +kernel
set_option maxRecDepth 20000 in
theorem dL_law_945 : decode cL_law 945 = .ok (.iaload, 1) := by decide +kernel
set_option maxRecDepth 20000 in
theorem dL_law_946 : decode cL_law 946 = .ok (.invokevirtual 110, 3) := by decide +kernel
set_option maxRecDepth 20000 in
theorem dL_law_949 : decode cL_law 949 = .ok (.lcmp, 1) := by decide +kernel
set_option maxRecDepth 20000 in
theorem dL_law_950 : decode cL_law 950 = .ok (.ifCond .eq 165, 3) := by decide +kernel
set_option maxRecDepth 20000 in
theorem dL_law_953 : decode cL_law 953 = .ok (.iconst 0, 1) := by decide +kernel
set_option maxRecDepth 20000 in
theorem dL_law_954 : decode cL_law 954 = .ok (.ireturn, 1) := by decide +kernel
set_option maxRecDepth 20000 in
theorem dL_law_955 : decode cL_law 955 = .ok (.aload_n 1, 1) := by decide +kernel
set_option maxRecDepth 20000 in
theorem dL_law_956 : decode cL_law 956 = .ok (.aload_n 0, 1) := by decide +kernel
set_option maxRecDepth 20000 in
theorem dL_law_957 : decode cL_law 957 = .ok (.iload_n 3, 1) := by decide +kernel
set_option maxRecDepth 20000 in
theorem dL_law_958 : decode cL_law 958 = .ok (.iconst 1, 1) := by decide +kernel
set_option maxRecDepth 20000 in
theorem dL_law_959 : decode cL_law 959 = .ok (.iadd, 1) := by decide +kernel
set_option maxRecDepth 20000 in
theorem dL_law_960 : decode cL_law 960 = .ok (.iaload, 1) := by decide +kernel
set_option maxRecDepth 20000 in
theorem dL_law_961 : decode cL_law 961 = .ok (.aload_n 0, 1) := by decide +kernel
set_option maxRecDepth 20000 in
theorem dL_law_962 : decode cL_law 962 = .ok (.iload_n 3, 1) := by decide +kernel
set_option maxRecDepth 20000 in
theorem dL_law_963 : decode cL_law 963 = .ok (.iconst 2, 1) := by decide +kernel
set_option maxRecDepth 20000 in
theorem dL_law_964 : decode cL_law 964 = .ok (.iadd, 1) := by decide +kernel
set_option maxRecDepth 20000 in
theorem dL_law_965 : decode cL_law 965 = .ok (.iaload, 1) := by decide +kernel
set_option maxRecDepth 20000 in
theorem dL_law_966 : decode cL_law 966 = .ok (.invokevirtual 111, 3) := by decide +kernel
set_option maxRecDepth 20000 in
theorem dL_law_969 : decode cL_law 969 = .ok (.aload_n 2, 1) := by decide +kernel
set_option maxRecDepth 20000 in
theorem dL_law_970 : decode cL_law 970 = .ok (.aload_n 0, 1) := by decide +kernel
set_option maxRecDepth 20000 in
theorem dL_law_971 : decode cL_law 971 = .ok (.iload_n 3, 1) := by decide +kernel
set_option maxRecDepth 20000 in
theorem dL_law_972 : decode cL_law 972 = .ok (.iconst 1, 1) := by decide +kernel
set_option maxRecDepth 20000 in
theorem dL_law_973 : decode cL_law 973 = .ok (.iadd, 1) := by decide +kernel
set_option maxRecDepth 20000 in
theorem dL_law_974 : decode cL_law 974 = .ok (.iaload, 1) := by decide +kernel
set_option maxRecDepth 20000 in
theorem dL_law_975 : decode cL_law 975 = .ok (.aload_n 0, 1) := by decide +kernel
set_option maxRecDepth 20000 in
theorem dL_law_976 : decode cL_law 976 = .ok (.iload_n 3, 1) := by decide +kernel
set_option maxRecDepth 20000 in
theorem dL_law_977 : decode cL_law 977 = .ok (.iconst 2, 1) := by decide +kernel
set_option maxRecDepth 20000 in
theorem dL_law_978 : decode cL_law 978 = .ok (.iadd, 1) := by decide +kernel
set_option maxRecDepth 20000 in
theorem dL_law_979 : decode cL_law 979 = .ok (.iaload, 1) := by decide +kernel
set_option maxRecDepth 20000 in
theorem dL_law_980 : decode cL_law 980 = .ok (.invokevirtual 114, 3) := by decide +kernel
set_option maxRecDepth 20000 in
theorem dL_law_983 : decode cL_law 983 = .ok (.if_icmp .eq 132, 3) := by decide +kernel
set_option maxRecDepth 20000 in
theorem dL_law_986 : decode cL_law 986 = .ok (.iconst 0, 1) := by decide +kernel
set_option maxRecDepth 20000 in
theorem dL_law_987 : decode cL_law 987 = .ok (.ireturn, 1) := by decide +kernel
set_option maxRecDepth 20000 in
theorem dL_law_988 : decode cL_law 988 = .ok (.aload_n 1, 1) := by decide +kernel
set_option maxRecDepth 20000 in
theorem dL_law_989 : decode cL_law 989 = .ok (.aload_n 0, 1) := by decide +kernel
set_option maxRecDepth 20000 in
theorem dL_law_990 : decode cL_law 990 = .ok (.iload_n 3, 1) := by decide +kernel
set_option maxRecDepth 20000 in
theorem dL_law_991 : decode cL_law 991 = .ok (.iconst 1, 1) := by decide +kernel
set_option maxRecDepth 20000 in
theorem dL_law_992 : decode cL_law 992 = .ok (.iadd, 1) := by decide +kernel
set_option maxRecDepth 20000 in
theorem dL_law_993 : decode cL_law 993 = .ok (.iaload, 1) := by decide +kernel
set_option maxRecDepth 20000 in
theorem dL_law_994 : decode cL_law 994 = .ok (.aload_n 0, 1) := by decide +kernel
set_option maxRecDepth 20000 in
theorem dL_law_995 : decode cL_law 995 = .ok (.iload_n 3, 1) := by decide +kernel
set_option maxRecDepth 20000 in
theorem dL_law_996 : decode cL_law 996 = .ok (.iconst 2, 1) := by decide +kernel
set_option maxRecDepth 20000 in
theorem dL_law_997 : decode cL_law 997 = .ok (.iadd, 1) := by decide +kernel
set_option maxRecDepth 20000 in
theorem dL_law_998 : decode cL_law 998 = .ok (.iaload, 1) := by decide +kernel
set_option maxRecDepth 20000 in
theorem dL_law_999 : decode cL_law 999 = .ok (.invokevirtual 115, 3) := by decide +kernel
set_option maxRecDepth 20000 in
theorem dL_law_1002 : decode cL_law 1002 = .ok (.aload_n 2, 1) := by decide +kernel
set_option maxRecDepth 20000 in
theorem dL_law_1003 : decode cL_law 1003 = .ok (.aload_n 0, 1) := by decide +kernel
set_option maxRecDepth 20000 in
theorem dL_law_1004 : decode cL_law 1004 = .ok (.iload_n 3, 1) := by decide +kernel
set_option maxRecDepth 20000 in
theorem dL_law_1005 : decode cL_law 1005 = .ok (.iconst 1, 1) := by decide +kernel
set_option maxRecDepth 20000 in
theorem dL_law_1006 : decode cL_law 1006 = .ok (.iadd, 1) := by decide +kernel
set_option maxRecDepth 20000 in
theorem dL_law_1007 : decode cL_law 1007 = .ok (.iaload, 1) := by decide +kernel
set_option maxRecDepth 20000 in
theorem dL_law_1008 : decode cL_law 1008 = .ok (.aload_n 0, 1) := by decide +kernel
set_option maxRecDepth 20000 in
theorem dL_law_1009 : decode cL_law 1009 = .ok (.iload_n 3, 1) := by decide +kernel
set_option maxRecDepth 20000 in
theorem dL_law_1010 : decode cL_law 1010 = .ok (.iconst 2, 1) := by decide +kernel
set_option maxRecDepth 20000 in
theorem dL_law_1011 : decode cL_law 1011 = .ok (.iadd, 1) := by decide +kernel
set_option maxRecDepth 20000 in
theorem dL_law_1012 : decode cL_law 1012 = .ok (.iaload, 1) := by decide +kernel
set_option maxRecDepth 20000 in
theorem dL_law_1013 : decode cL_law 1013 = .ok (.invokevirtual 119, 3) := by decide +kernel
set_option maxRecDepth 20000 in
theorem dL_law_1016 : decode cL_law 1016 = .ok (.lcmp, 1) := by decide +kernel
set_option maxRecDepth 20000 in
theorem dL_law_1017 : decode cL_law 1017 = .ok (.ifCond .eq 98, 3) := by decide +kernel
set_option maxRecDepth 20000 in
theorem dL_law_1020 : decode cL_law 1020 = .ok (.iconst 0, 1) := by decide +kernel
set_option maxRecDepth 20000 in
theorem dL_law_1021 : decode cL_law 1021 = .ok (.ireturn, 1) := by decide +kernel
set_option maxRecDepth 20000 in
theorem dL_law_1022 : decode cL_law 1022 = .ok (.aload_n 1, 1) := by decide +kernel
set_option maxRecDepth 20000 in
theorem dL_law_1023 : decode cL_law 1023 = .ok (.aload_n 0, 1) := by decide +kernel
set_option maxRecDepth 20000 in
theorem dL_law_1024 : decode cL_law 1024 = .ok (.iload_n 3, 1) := by decide +kernel
set_option maxRecDepth 20000 in
theorem dL_law_1025 : decode cL_law 1025 = .ok (.iconst 1, 1) := by decide +kernel
set_option maxRecDepth 20000 in
theorem dL_law_1026 : decode cL_law 1026 = .ok (.iadd, 1) := by decide +kernel
set_option maxRecDepth 20000 in
theorem dL_law_1027 : decode cL_law 1027 = .ok (.iaload, 1) := by decide +kernel
set_option maxRecDepth 20000 in
theorem dL_law_1028 : decode cL_law 1028 = .ok (.invokevirtual 120, 3) := by decide +kernel
set_option maxRecDepth 20000 in
theorem dL_law_1031 : decode cL_law 1031 = .ok (.aload_n 2, 1) := by decide +kernel
set_option maxRecDepth 20000 in
theorem dL_law_1032 : decode cL_law 1032 = .ok (.aload_n 0, 1) := by decide +kernel
set_option maxRecDepth 20000 in
theorem dL_law_1033 : decode cL_law 1033 = .ok (.iload_n 3, 1) := by decide +kernel
set_option maxRecDepth 20000 in
theorem dL_law_1034 : decode cL_law 1034 = .ok (.iconst 1, 1) := by decide +kernel
set_option maxRecDepth 20000 in
theorem dL_law_1035 : decode cL_law 1035 = .ok (.iadd, 1) := by decide +kernel
set_option maxRecDepth 20000 in
theorem dL_law_1036 : decode cL_law 1036 = .ok (.iaload, 1) := by decide +kernel
set_option maxRecDepth 20000 in
theorem dL_law_1037 : decode cL_law 1037 = .ok (.invokevirtual 124, 3) := by decide +kernel
set_option maxRecDepth 20000 in
theorem dL_law_1040 : decode cL_law 1040 = .ok (.lcmp, 1) := by decide +kernel
set_option maxRecDepth 20000 in
theorem dL_law_1041 : decode cL_law 1041 = .ok (.ifCond .eq 74, 3) := by decide +kernel
set_option maxRecDepth 20000 in
theorem dL_law_1044 : decode cL_law 1044 = .ok (.iconst 0, 1) := by decide +kernel
set_option maxRecDepth 20000 in
theorem dL_law_1045 : decode cL_law 1045 = .ok (.ireturn, 1) := by decide +kernel
set_option maxRecDepth 20000 in
theorem dL_law_1046 : decode cL_law 1046 = .ok (.aload_n 1, 1) := by decide +kernel
set_option maxRecDepth 20000 in
theorem dL_law_1047 : decode cL_law 1047 = .ok (.aload_n 0, 1) := by decide +kernel
set_option maxRecDepth 20000 in
theorem dL_law_1048 : decode cL_law 1048 = .ok (.iload_n 3, 1) := by decide +kernel
set_option maxRecDepth 20000 in
theorem dL_law_1049 : decode cL_law 1049 = .ok (.iconst 1, 1) := by decide +kernel
set_option maxRecDepth 20000 in
theorem dL_law_1050 : decode cL_law 1050 = .ok (.iadd, 1) := by decide +kernel
set_option maxRecDepth 20000 in
theorem dL_law_1051 : decode cL_law 1051 = .ok (.iaload, 1) := by decide +kernel
set_option maxRecDepth 20000 in
theorem dL_law_1052 : decode cL_law 1052 = .ok (.invokevirtual 125, 3) := by decide +kernel
set_option maxRecDepth 20000 in
theorem dL_law_1055 : decode cL_law 1055 = .ok (.aload_n 2, 1) := by decide +kernel
set_option maxRecDepth 20000 in
theorem dL_law_1056 : decode cL_law 1056 = .ok (.aload_n 0, 1) := by decide +kernel
set_option maxRecDepth 20000 in
theorem dL_law_1057 : decode cL_law 1057 = .ok (.iload_n 3, 1) := by decide +kernel
set_option maxRecDepth 20000 in
theorem dL_law_1058 : decode cL_law 1058 = .ok (.iconst 1, 1) := by decide +kernel
set_option maxRecDepth 20000 in
theorem dL_law_1059 : decode cL_law 1059 = .ok (.iadd, 1) := by decide +kernel
set_option maxRecDepth 20000 in
theorem dL_law_1060 : decode cL_law 1060 = .ok (.iaload, 1) := by decide +kernel
set_option maxRecDepth 20000 in
theorem dL_law_1061 : decode cL_law 1061 = .ok (.invokevirtual 128, 3) := by decide +kernel
set_option maxRecDepth 20000 in
theorem dL_law_1064 : decode cL_law 1064 = .ok (.if_icmp .eq 51, 3) := by decide +kernel
set_option maxRecDepth 20000 in
theorem dL_law_1067 : decode cL_law 1067 = .ok (.iconst 0, 1) := by decide +kernel
set_option maxRecDepth 20000 in
theorem dL_law_1068 : decode cL_law 1068 = .ok (.ireturn, 1) := by decide +kernel
set_option maxRecDepth 20000 in
theorem dL_law_1069 : decode cL_law 1069 = .ok (.aload_n 1, 1) := by decide +kernel
set_option maxRecDepth 20000 in
theorem dL_law_1070 : decode cL_law 1070 = .ok (.aload_n 0, 1) := by decide +kernel
set_option maxRecDepth 20000 in
theorem dL_law_1071 : decode cL_law 1071 = .ok (.iload_n 3, 1) := by decide +kernel
set_option maxRecDepth 20000 in
theorem dL_law_1072 : decode cL_law 1072 = .ok (.iconst 1, 1) := by decide +kernel
set_option maxRecDepth 20000 in
theorem dL_law_1073 : decode cL_law 1073 = .ok (.iadd, 1) := by decide +kernel
set_option maxRecDepth 20000 in
theorem dL_law_1074 : decode cL_law 1074 = .ok (.iaload, 1) := by decide +kernel
set_option maxRecDepth 20000 in
theorem dL_law_1075 : decode cL_law 1075 = .ok (.invokevirtual 129, 3) := by decide +kernel
set_option maxRecDepth 20000 in
theorem dL_law_1078 : decode cL_law 1078 = .ok (.aload_n 2, 1) := by decide +kernel
set_option maxRecDepth 20000 in
theorem dL_law_1079 : decode cL_law 1079 = .ok (.aload_n 0, 1) := by decide +kernel
set_option maxRecDepth 20000 in
theorem dL_law_1080 : decode cL_law 1080 = .ok (.iload_n 3, 1) := by decide +kernel
set_option maxRecDepth 20000 in
theorem dL_law_1081 : decode cL_law 1081 = .ok (.iconst 1, 1) := by decide +kernel
set_option maxRecDepth 20000 in
theorem dL_law_1082 : decode cL_law 1082 = .ok (.iadd, 1) := by decide +kernel
set_option maxRecDepth 20000 in
theorem dL_law_1083 : decode cL_law 1083 = .ok (.iaload, 1) := by decide +kernel
set_option maxRecDepth 20000 in
theorem dL_law_1084 : decode cL_law 1084 = .ok (.invokevirtual 132, 3) := by decide +kernel
set_option maxRecDepth 20000 in
theorem dL_law_1087 : decode cL_law 1087 = .ok (.if_icmp .eq 28, 3) := by decide +kernel
set_option maxRecDepth 20000 in
theorem dL_law_1090 : decode cL_law 1090 = .ok (.iconst 0, 1) := by decide +kernel
set_option maxRecDepth 20000 in
theorem dL_law_1091 : decode cL_law 1091 = .ok (.ireturn, 1) := by decide +kernel
set_option maxRecDepth 20000 in
theorem dL_law_1092 : decode cL_law 1092 = .ok (.aload_n 1, 1) := by decide +kernel
set_option maxRecDepth 20000 in
theorem dL_law_1093 : decode cL_law 1093 = .ok (.aload_n 0, 1) := by decide +kernel
set_option maxRecDepth 20000 in
theorem dL_law_1094 : decode cL_law 1094 = .ok (.iload_n 3, 1) := by decide +kernel
set_option maxRecDepth 20000 in
theorem dL_law_1095 : decode cL_law 1095 = .ok (.iconst 1, 1) := by decide +kernel
set_option maxRecDepth 20000 in
theorem dL_law_1096 : decode cL_law 1096 = .ok (.iadd, 1) := by decide +kernel
set_option maxRecDepth 20000 in
theorem dL_law_1097 : decode cL_law 1097 = .ok (.iaload, 1) := by decide +kernel
set_option maxRecDepth 20000 in
theorem dL_law_1098 : decode cL_law 1098 = .ok (.invokevirtual 133, 3) := by decide +kernel
set_option maxRecDepth 20000 in
theorem dL_law_1101 : decode cL_law 1101 = .ok (.aload_n 2, 1) := by decide +kernel
set_option maxRecDepth 20000 in
theorem dL_law_1102 : decode cL_law 1102 = .ok (.aload_n 0, 1) := by decide +kernel
set_option maxRecDepth 20000 in
theorem dL_law_1103 : decode cL_law 1103 = .ok (.iload_n 3, 1) := by decide +kernel
set_option maxRecDepth 20000 in
theorem dL_law_1104 : decode cL_law 1104 = .ok (.iconst 1, 1) := by decide +kernel
set_option maxRecDepth 20000 in
theorem dL_law_1105 : decode cL_law 1105 = .ok (.iadd, 1) := by decide +kernel
set_option maxRecDepth 20000 in
theorem dL_law_1106 : decode cL_law 1106 = .ok (.iaload, 1) := by decide +kernel
set_option maxRecDepth 20000 in
theorem dL_law_1107 : decode cL_law 1107 = .ok (.invokevirtual 136, 3) := by decide +kernel
set_option maxRecDepth 20000 in
theorem dL_law_1110 : decode cL_law 1110 = .ok (.if_icmp .eq 5, 3) := by decide +kernel
set_option maxRecDepth 20000 in
theorem dL_law_1113 : decode cL_law 1113 = .ok (.iconst 0, 1) := by decide +kernel
set_option maxRecDepth 20000 in
theorem dL_law_1114 : decode cL_law 1114 = .ok (.ireturn, 1) := by decide +kernel
set_option maxRecDepth 20000 in
theorem dL_law_1115 : decode cL_law 1115 = .ok (.iinc 3 5, 3) := by decide +kernel
set_option maxRecDepth 20000 in
theorem dL_law_1118 : decode cL_law 1118 = .ok (.goto (-1100), 3) := by decide +kernel
set_option maxRecDepth 20000 in
theorem dL_law_1121 : decode cL_law 1121 = .ok (.iconst 1, 1) := by decide +kernel
set_option maxRecDepth 20000 in
theorem dL_law_1122 : decode cL_law 1122 = .ok (.ireturn, 1) := by decide +kernel
