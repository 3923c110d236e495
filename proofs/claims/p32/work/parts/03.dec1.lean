set_option maxRecDepth 20000 in
theorem dX3_readFace_127 : decode cX3_readFace 127 = .ok (.ifCond .le 16, 3) := by decide +kernel
set_option maxRecDepth 20000 in
theorem dX3_readFace_130 : decode cX3_readFace 130 = .ok (.aload_n 2, 1) := by decide +kernel
set_option maxRecDepth 20000 in
theorem dX3_readFace_131 : decode cX3_readFace 131 = .ok (.aload_n 1, 1) := by decide +kernel
set_option maxRecDepth 20000 in
theorem dX3_readFace_132 : decode cX3_readFace 132 = .ok (.invokevirtual 42, 3) := by decide +kernel
set_option maxRecDepth 20000 in
theorem dX3_readFace_135 : decode cX3_readFace 135 = .ok (.ifCond .ne 8, 3) := by decide +kernel
set_option maxRecDepth 20000 in
theorem dX3_readFace_138 : decode cX3_readFace 138 = .ok (.aload_n 0, 1) := by decide +kernel
set_option maxRecDepth 20000 in
theorem dX3_readFace_139 : decode cX3_readFace 139 = .ok (.iconst 2, 1) := by decide +kernel
set_option maxRecDepth 20000 in
theorem dX3_readFace_140 : decode cX3_readFace 140 = .ok (.putfield 22, 3) := by decide +kernel
set_option maxRecDepth 20000 in
theorem dX3_readFace_143 : decode cX3_readFace 143 = .ok (.aload_n 0, 1) := by decide +kernel
set_option maxRecDepth 20000 in
theorem dX3_readFace_144 : decode cX3_readFace 144 = .ok (.getfield 22, 3) := by decide +kernel
set_option maxRecDepth 20000 in
theorem dX3_readFace_147 : decode cX3_readFace 147 = .ok (.ifCond .ne 15, 3) := by decide +kernel
set_option maxRecDepth 20000 in
theorem dX3_readFace_150 : decode cX3_readFace 150 = .ok (.aload_n 2, 1) := by decide +kernel
set_option maxRecDepth 20000 in
theorem dX3_readFace_151 : decode cX3_readFace 151 = .ok (.invokevirtual 78, 3) := by decide +kernel
set_option maxRecDepth 20000 in
theorem dX3_readFace_154 : decode cX3_readFace 154 = .ok (.ifCond .ne 8, 3) := by decide +kernel
set_option maxRecDepth 20000 in
theorem dX3_readFace_157 : decode cX3_readFace 157 = .ok (.aload_n 0, 1) := by decide +kernel
set_option maxRecDepth 20000 in
theorem dX3_readFace_158 : decode cX3_readFace 158 = .ok (.iconst 1, 1) := by decide +kernel
set_option maxRecDepth 20000 in
theorem dX3_readFace_159 : decode cX3_readFace 159 = .ok (.putfield 22, 3) := by decide +kernel
set_option maxRecDepth 20000 in
theorem dX3_readFace_162 : decode cX3_readFace 162 = .ok (.aload_n 0, 1) := by decide +kernel
set_option maxRecDepth 20000 in
theorem dX3_readFace_163 : decode cX3_readFace 163 = .ok (.bipush 59, 2) := by decide +kernel
set_option maxRecDepth 20000 in
theorem dX3_readFace_165 : decode cX3_readFace 165 = .ok (.invokevirtual 49, 3) := by decide +kernel
set_option maxRecDepth 20000 in
theorem dX3_readFace_168 : decode cX3_readFace 168 = .ok (.aload_n 0, 1) := by decide +kernel
set_option maxRecDepth 20000 in
theorem dX3_readFace_169 : decode cX3_readFace 169 = .ok (.getfield 22, 3) := by decide +kernel
set_option maxRecDepth 20000 in
theorem dX3_readFace_172 : decode cX3_readFace 172 = .ok (.ifCond .ne 9, 3) := by decide +kernel
set_option maxRecDepth 20000 in
theorem dX3_readFace_175 : decode cX3_readFace 175 = .ok (.aload_n 1, 1) := by decide +kernel
set_option maxRecDepth 20000 in
theorem dX3_readFace_176 : decode cX3_readFace 176 = .ok (.aload_n 2, 1) := by decide +kernel
set_option maxRecDepth 20000 in
theorem dX3_readFace_177 : decode cX3_readFace 177 = .ok (.iload_n 3, 1) := by decide +kernel
set_option maxRecDepth 20000 in
theorem dX3_readFace_178 : decode cX3_readFace 178 = .ok (.invokevirtual 81, 3) := by decide +kernel
set_option maxRecDepth 20000 in
theorem dX3_readFace_181 : decode cX3_readFace 181 = .ok (.return_, 1) := by decide +kernel
set_option maxRecDepth 20000 in
theorem dX3_takeSign_0 : decode cX3_takeSign 0 = .ok (.aload_n 0, 1) := by decide +kernel
set_option maxRecDepth 20000 in
theorem dX3_takeSign_1 : decode cX3_takeSign 1 = .ok (.getfield 22, 3) := by decide +kernel
set_option maxRecDepth 20000 in
theorem dX3_takeSign_4 : decode cX3_takeSign 4 = .ok (.ifCond .eq 4, 3) := by decide +kernel
set_option maxRecDepth 20000 in
theorem dX3_takeSign_7 : decode cX3_takeSign 7 = .ok (.return_, 1) := by decide +kernel
set_option maxRecDepth 20000 in
theorem dX3_takeSign_8 : decode cX3_takeSign 8 = .ok (.aload_n 0, 1) := by decide +kernel
set_option maxRecDepth 20000 in
theorem dX3_takeSign_9 : decode cX3_takeSign 9 = .ok (.aload_n 0, 1) := by decide +kernel
set_option maxRecDepth 20000 in
theorem dX3_takeSign_10 : decode cX3_takeSign 10 = .ok (.getfield 19, 3) := by decide +kernel
set_option maxRecDepth 20000 in
theorem dX3_takeSign_13 : decode cX3_takeSign 13 = .ok (.invokevirtual 34, 3) := by decide +kernel
set_option maxRecDepth 20000 in
theorem dX3_takeSign_16 : decode cX3_takeSign 16 = .ok (.iload_n 1, 1) := by decide +kernel
set_option maxRecDepth 20000 in
theorem dX3_takeSign_17 : decode cX3_takeSign 17 = .ok (.if_icmp .ne 16, 3) := by decide +kernel
set_option maxRecDepth 20000 in
theorem dX3_takeSign_20 : decode cX3_takeSign 20 = .ok (.aload_n 0, 1) := by decide +kernel
set_option maxRecDepth 20000 in
theorem dX3_takeSign_21 : decode cX3_takeSign 21 = .ok (.dup, 1) := by decide +kernel
set_option maxRecDepth 20000 in
theorem dX3_takeSign_22 : decode cX3_takeSign 22 = .ok (.getfield 19, 3) := by decide +kernel
set_option maxRecDepth 20000 in
theorem dX3_takeSign_25 : decode cX3_takeSign 25 = .ok (.iconst 1, 1) := by decide +kernel
set_option maxRecDepth 20000 in
theorem dX3_takeSign_26 : decode cX3_takeSign 26 = .ok (.iadd, 1) := by decide +kernel
set_option maxRecDepth 20000 in
theorem dX3_takeSign_27 : decode cX3_takeSign 27 = .ok (.putfield 19, 3) := by decide +kernel
set_option maxRecDepth 20000 in
theorem dX3_takeSign_30 : decode cX3_takeSign 30 = .ok (.goto 8, 3) := by decide +kernel
set_option maxRecDepth 20000 in
theorem dX3_takeSign_33 : decode cX3_takeSign 33 = .ok (.aload_n 0, 1) := by decide +kernel
set_option maxRecDepth 20000 in
theorem dX3_takeSign_34 : decode cX3_takeSign 34 = .ok (.iconst 1, 1) := by decide +kernel
set_option maxRecDepth 20000 in
theorem dX3_takeSign_35 : decode cX3_takeSign 35 = .ok (.putfield 22, 3) := by decide +kernel
set_option maxRecDepth 20000 in
theorem dX3_takeSign_38 : decode cX3_takeSign 38 = .ok (.return_, 1) := by decide +kernel
set_option maxRecDepth 20000 in
theorem dX3_takeDigit_0 : decode cX3_takeDigit 0 = .ok (.aload_n 0, 1) := by decide +kernel
set_option maxRecDepth 20000 in
theorem dX3_takeDigit_1 : decode cX3_takeDigit 1 = .ok (.getfield 22, 3) := by decide +kernel
set_option maxRecDepth 20000 in
theorem dX3_takeDigit_4 : decode cX3_takeDigit 4 = .ok (.ifCond .eq 5, 3) := by decide +kernel
set_option maxRecDepth 20000 in
theorem dX3_takeDigit_7 : decode cX3_takeDigit 7 = .ok (.iconst 0, 1) := by decide +kernel
set_option maxRecDepth 20000 in
theorem dX3_takeDigit_8 : decode cX3_takeDigit 8 = .ok (.ireturn, 1) := by decide +kernel
set_option maxRecDepth 20000 in
theorem dX3_takeDigit_9 : decode cX3_takeDigit 9 = .ok (.aload_n 0, 1) := by decide +kernel
set_option maxRecDepth 20000 in
theorem dX3_takeDigit_10 : decode cX3_takeDigit 10 = .ok (.aload_n 0, 1) := by decide +kernel
set_option maxRecDepth 20000 in
theorem dX3_takeDigit_11 : decode cX3_takeDigit 11 = .ok (.getfield 19, 3) := by decide +kernel
set_option maxRecDepth 20000 in
theorem dX3_takeDigit_14 : decode cX3_takeDigit 14 = .ok (.invokevirtual 34, 3) := by decide +kernel
set_option maxRecDepth 20000 in
theorem dX3_takeDigit_17 : decode cX3_takeDigit 17 = .ok (.bipush 48, 2) := by decide +kernel
set_option maxRecDepth 20000 in
theorem dX3_takeDigit_19 : decode cX3_takeDigit 19 = .ok (.isub, 1) := by decide +kernel
set_option maxRecDepth 20000 in
theorem dX3_takeDigit_20 : decode cX3_takeDigit 20 = .ok (.istore_n 3, 1) := by decide +kernel
set_option maxRecDepth 20000 in
theorem dX3_takeDigit_21 : decode cX3_takeDigit 21 = .ok (.iload_n 3, 1) := by decide +kernel
set_option maxRecDepth 20000 in
theorem dX3_takeDigit_22 : decode cX3_takeDigit 22 = .ok (.bipush 10, 2) := by decide +kernel
set_option maxRecDepth 20000 in
theorem dX3_takeDigit_24 : decode cX3_takeDigit 24 = .ok (.invokestatic 25, 3) := by decide +kernel
set_option maxRecDepth 20000 in
theorem dX3_takeDigit_27 : decode cX3_takeDigit 27 = .ok (.ifCond .ne 10, 3) := by decide +kernel
set_option maxRecDepth 20000 in
theorem dX3_takeDigit_30 : decode cX3_takeDigit 30 = .ok (.aload_n 0, 1) := by decide +kernel
set_option maxRecDepth 20000 in
theorem dX3_takeDigit_31 : decode cX3_takeDigit 31 = .ok (.iconst 1, 1) := by decide +kernel
set_option maxRecDepth 20000 in
theorem dX3_takeDigit_32 : decode cX3_takeDigit 32 = .ok (.putfield 22, 3) := by decide +kernel
set_option maxRecDepth 20000 in
theorem dX3_takeDigit_35 : decode cX3_takeDigit 35 = .ok (.iconst 0, 1) := by decide +kernel
set_option maxRecDepth 20000 in
theorem dX3_takeDigit_36 : decode cX3_takeDigit 36 = .ok (.ireturn, 1) := by decide +kernel
set_option maxRecDepth 20000 in
theorem dX3_takeDigit_37 : decode cX3_takeDigit 37 = .ok (.iload_n 3, 1) := by decide +kernel
set_option maxRecDepth 20000 in
theorem dX3_takeDigit_38 : decode cX3_takeDigit 38 = .ok (.iload_n 1, 1) := by decide +kernel
set_option maxRecDepth 20000 in
theorem dX3_takeDigit_39 : decode cX3_takeDigit 39 = .ok (.if_icmp .lt 8, 3) := by decide +kernel
set_option maxRecDepth 20000 in
theorem dX3_takeDigit_42 : decode cX3_takeDigit 42 = .ok (.iload_n 3, 1) := by decide +kernel
set_option maxRecDepth 20000 in
theorem dX3_takeDigit_43 : decode cX3_takeDigit 43 = .ok (.iload_n 2, 1) := by decide +kernel
set_option maxRecDepth 20000 in
theorem dX3_takeDigit_44 : decode cX3_takeDigit 44 = .ok (.if_icmp .le 10, 3) := by decide +kernel
set_option maxRecDepth 20000 in
theorem dX3_takeDigit_47 : decode cX3_takeDigit 47 = .ok (.aload_n 0, 1) := by decide +kernel
set_option maxRecDepth 20000 in
theorem dX3_takeDigit_48 : decode cX3_takeDigit 48 = .ok (.iconst 2, 1) := by decide +kernel
set_option maxRecDepth 20000 in
theorem dX3_takeDigit_49 : decode cX3_takeDigit 49 = .ok (.putfield 22, 3) := by decide +kernel
set_option maxRecDepth 20000 in
theorem dX3_takeDigit_52 : decode cX3_takeDigit 52 = .ok (.iconst 0, 1) := by decide +kernel
set_option maxRecDepth 20000 in
theorem dX3_takeDigit_53 : decode cX3_takeDigit 53 = .ok (.ireturn, 1) := by decide +kernel
set_option maxRecDepth 20000 in
theorem dX3_takeDigit_54 : decode cX3_takeDigit 54 = .ok (.aload_n 0, 1) := by decide +kernel
set_option maxRecDepth 20000 in
theorem dX3_takeDigit_55 : decode cX3_takeDigit 55 = .ok (.dup, 1) := by decide +kernel
set_option maxRecDepth 20000 in
theorem dX3_takeDigit_56 : decode cX3_takeDigit 56 = .ok (.getfield 19, 3) := by decide +kernel
set_option maxRecDepth 20000 in
theorem dX3_takeDigit_59 : decode cX3_takeDigit 59 = .ok (.iconst 1, 1) := by decide +kernel
set_option maxRecDepth 20000 in
theorem dX3_takeDigit_60 : decode cX3_takeDigit 60 = .ok (.iadd, 1) := by decide +kernel
set_option maxRecDepth 20000 in
theorem dX3_takeDigit_61 : decode cX3_takeDigit 61 = .ok (.putfield 19, 3) := by decide +kernel
set_option maxRecDepth 20000 in
theorem dX3_takeDigit_64 : decode cX3_takeDigit 64 = .ok (.iload_n 3, 1) := by decide +kernel
set_option maxRecDepth 20000 in
theorem dX3_takeDigit_65 : decode cX3_takeDigit 65 = .ok (.ireturn, 1) := by decide +kernel
set_option maxRecDepth 20000 in
theorem dX4_init_0 : decode cX4_init 0 = .ok (.aload_n 0, 1) := by decide +kernel
set_option maxRecDepth 20000 in
theorem dX4_init_1 : decode cX4_init 1 = .ok (.invokespecial 3, 3) := by decide +kernel
set_option maxRecDepth 20000 in
theorem dX4_init_4 : decode cX4_init 4 = .ok (.aload_n 0, 1) := by decide +kernel
set_option maxRecDepth 20000 in
theorem dX4_init_5 : decode cX4_init 5 = .ok (.iconst 4, 1) := by decide +kernel
set_option maxRecDepth 20000 in
theorem dX4_init_6 : decode cX4_init 6 = .ok (.newarray .int, 2) := by decide +kernel
set_option maxRecDepth 20000 in
theorem dX4_init_8 : decode cX4_init 8 = .ok (.putfield 9, 3) := by decide +kernel
set_option maxRecDepth 20000 in
theorem dX4_init_11 : decode cX4_init 11 = .ok (.aload_n 0, 1) := by decide +kernel
set_option maxRecDepth 20000 in
theorem dX4_init_12 : decode cX4_init 12 = .ok (.iconst 0, 1) := by decide +kernel
set_option maxRecDepth 20000 in
theorem dX4_init_13 : decode cX4_init 13 = .ok (.putfield 15, 3) := by decide +kernel
set_option maxRecDepth 20000 in
theorem dX4_init_16 : decode cX4_init 16 = .ok (.return_, 1) := by decide +kernel
set_option maxRecDepth 20000 in
theorem dX4_isBackward_0 : decode cX4_isBackward 0 = .ok (.iload_n 0, 1) := by decide +kernel
set_option maxRecDepth 20000 in
theorem dX4_isBackward_1 : decode cX4_isBackward 1 = .ok (.bipush 65, 2) := by decide +kernel
set_option maxRecDepth 20000 in
theorem dX4_isBackward_3 : decode cX4_isBackward 3 = .ok (.if_icmp .lt 13, 3) := by decide +kernel
set_option maxRecDepth 20000 in
theorem dX4_isBackward_6 : decode cX4_isBackward 6 = .ok (.iload_n 0, 1) := by decide +kernel
set_option maxRecDepth 20000 in
theorem dX4_isBackward_7 : decode cX4_isBackward 7 = .ok (.bipush 90, 2) := by decide +kernel
set_option maxRecDepth 20000 in
theorem dX4_isBackward_9 : decode cX4_isBackward 9 = .ok (.if_icmp .gt 7, 3) := by decide +kernel
set_option maxRecDepth 20000 in
theorem dX4_isBackward_12 : decode cX4_isBackward 12 = .ok (.iconst 1, 1) := by decide +kernel
set_option maxRecDepth 20000 in
theorem dX4_isBackward_13 : decode cX4_isBackward 13 = .ok (.goto 4, 3) := by decide +kernel
set_option maxRecDepth 20000 in
theorem dX4_isBackward_16 : decode cX4_isBackward 16 = .ok (.iconst 0, 1) := by decide +kernel
set_option maxRecDepth 20000 in
theorem dX4_isBackward_17 : decode cX4_isBackward 17 = .ok (.ireturn, 1) := by decide +kernel
set_option maxRecDepth 20000 in
theorem dX4_edgeOf_0 : decode cX4_edgeOf 0 = .ok (.iload_n 0, 1) := by decide +kernel
set_option maxRecDepth 20000 in
theorem dX4_edgeOf_1 : decode cX4_edgeOf 1 = .ok (.bipush 65, 2) := by decide +kernel
set_option maxRecDepth 20000 in
theorem dX4_edgeOf_3 : decode cX4_edgeOf 3 = .ok (.if_icmp .lt 14, 3) := by decide +kernel
set_option maxRecDepth 20000 in
theorem dX4_edgeOf_6 : decode cX4_edgeOf 6 = .ok (.iload_n 0, 1) := by decide +kernel
set_option maxRecDepth 20000 in
theorem dX4_edgeOf_7 : decode cX4_edgeOf 7 = .ok (.bipush 90, 2) := by decide +kernel
set_option maxRecDepth 20000 in
theorem dX4_edgeOf_9 : decode cX4_edgeOf 9 = .ok (.if_icmp .gt 8, 3) := by decide +kernel
set_option maxRecDepth 20000 in
theorem dX4_edgeOf_12 : decode cX4_edgeOf 12 = .ok (.iload_n 0, 1) := by decide +kernel
set_option maxRecDepth 20000 in
theorem dX4_edgeOf_13 : decode cX4_edgeOf 13 = .ok (.bipush 65, 2) := by decide +kernel
set_option maxRecDepth 20000 in
theorem dX4_edgeOf_15 : decode cX4_edgeOf 15 = .ok (.isub, 1) := by decide +kernel
set_option maxRecDepth 20000 in
theorem dX4_edgeOf_16 : decode cX4_edgeOf 16 = .ok (.ireturn, 1) := by decide +kernel
set_option maxRecDepth 20000 in
theorem dX4_edgeOf_17 : decode cX4_edgeOf 17 = .ok (.iload_n 0, 1) := by decide +kernel
set_option maxRecDepth 20000 in
theorem dX4_edgeOf_18 : decode cX4_edgeOf 18 = .ok (.bipush 97, 2) := by decide +kernel
set_option maxRecDepth 20000 in
theorem dX4_edgeOf_20 : decode cX4_edgeOf 20 = .ok (.if_icmp .lt 16, 3) := by decide +kernel
set_option maxRecDepth 20000 in
theorem dX4_edgeOf_23 : decode cX4_edgeOf 23 = .ok (.iload_n 0, 1) := by decide +kernel
set_option maxRecDepth 20000 in
theorem dX4_edgeOf_24 : decode cX4_edgeOf 24 = .ok (.bipush 122, 2) := by decide +kernel
set_option maxRecDepth 20000 in
theorem dX4_edgeOf_26 : decode cX4_edgeOf 26 = .ok (.if_icmp .gt 10, 3) := by decide +kernel
set_option maxRecDepth 20000 in
theorem dX4_edgeOf_29 : decode cX4_edgeOf 29 = .ok (.iload_n 0, 1) := by decide +kernel
set_option maxRecDepth 20000 in
theorem dX4_edgeOf_30 : decode cX4_edgeOf 30 = .ok (.bipush 97, 2) := by decide +kernel
set_option maxRecDepth 20000 in
theorem dX4_edgeOf_32 : decode cX4_edgeOf 32 = .ok (.isub, 1) := by decide +kernel
set_option maxRecDepth 20000 in
theorem dX4_edgeOf_33 : decode cX4_edgeOf 33 = .ok (.goto 4, 3) := by decide +kernel
set_option maxRecDepth 20000 in
theorem dX4_edgeOf_36 : decode cX4_edgeOf 36 = .ok (.iconst (-1), 1) := by decide +kernel
set_option maxRecDepth 20000 in
theorem dX4_edgeOf_37 : decode cX4_edgeOf 37 = .ok (.ireturn, 1) := by decide +kernel
set_option maxRecDepth 20000 in
theorem dX4_clear_0 : decode cX4_clear 0 = .ok (.aload_n 0, 1) := by decide +kernel
set_option maxRecDepth 20000 in
theorem dX4_clear_1 : decode cX4_clear 1 = .ok (.iconst 0, 1) := by decide +kernel
set_option maxRecDepth 20000 in
theorem dX4_clear_2 : decode cX4_clear 2 = .ok (.putfield 15, 3) := by decide +kernel
set_option maxRecDepth 20000 in
theorem dX4_clear_5 : decode cX4_clear 5 = .ok (.return_, 1) := by decide +kernel
set_option maxRecDepth 20000 in
theorem dX4_size_0 : decode cX4_size 0 = .ok (.aload_n 0, 1) := by decide +kernel
set_option maxRecDepth 20000 in
theorem dX4_size_1 : decode cX4_size 1 = .ok (.getfield 15, 3) := by decide +kernel
set_option maxRecDepth 20000 in
theorem dX4_size_4 : decode cX4_size 4 = .ok (.ireturn, 1) := by decide +kernel
set_option maxRecDepth 20000 in
theorem dX4_letterAt_0 : decode cX4_letterAt 0 = .ok (.iload_n 1, 1) := by decide +kernel
set_option maxRecDepth 20000 in
theorem dX4_letterAt_1 : decode cX4_letterAt 1 = .ok (.aload_n 0, 1) := by decide +kernel
set_option maxRecDepth 20000 in
theorem dX4_letterAt_2 : decode cX4_letterAt 2 = .ok (.getfield 15, 3) := by decide +kernel
set_option maxRecDepth 20000 in
theorem dX4_letterAt_5 : decode cX4_letterAt 5 = .ok (.if_icmp .ge 24, 3) := by decide +kernel
set_option maxRecDepth 20000 in
theorem dX4_letterAt_8 : decode cX4_letterAt 8 = .ok (.iload_n 1, 1) := by decide +kernel
set_option maxRecDepth 20000 in
theorem dX4_letterAt_9 : decode cX4_letterAt 9 = .ok (.aload_n 0, 1) := by decide +kernel
set_option maxRecDepth 20000 in
theorem dX4_letterAt_10 : decode cX4_letterAt 10 = .ok (.getfield 9, 3) := by decide +kernel
set_option maxRecDepth 20000 in
theorem dX4_letterAt_13 : decode cX4_letterAt 13 = .ok (.arraylength, 1) := by decide +kernel
set_option maxRecDepth 20000 in
theorem dX4_letterAt_14 : decode cX4_letterAt 14 = .ok (.invokestatic 19, 3) := by decide +kernel
set_option maxRecDepth 20000 in
theorem dX4_letterAt_17 : decode cX4_letterAt 17 = .ok (.ifCond .eq 12, 3) := by decide +kernel
set_option maxRecDepth 20000 in
theorem dX4_letterAt_20 : decode cX4_letterAt 20 = .ok (.aload_n 0, 1) := by decide +kernel
set_option maxRecDepth 20000 in
theorem dX4_letterAt_21 : decode cX4_letterAt 21 = .ok (.getfield 9, 3) := by decide +kernel
set_option maxRecDepth 20000 in
theorem dX4_letterAt_24 : decode cX4_letterAt 24 = .ok (.iload_n 1, 1) := by decide +kernel
set_option maxRecDepth 20000 in
theorem dX4_letterAt_25 : decode cX4_letterAt 25 = .ok (.iaload, 1) := by decide +kernel
set_option maxRecDepth 20000 in
theorem dX4_letterAt_26 : decode cX4_letterAt 26 = .ok (.goto 4, 3) := by decide +kernel
set_option maxRecDepth 20000 in
theorem dX4_letterAt_29 : decode cX4_letterAt 29 = .ok (.iconst 0, 1) := by decide +kernel
set_option maxRecDepth 20000 in
theorem dX4_letterAt_30 : decode cX4_letterAt 30 = .ok (.ireturn, 1) := by decide +kernel
set_option maxRecDepth 20000 in
theorem dX4_append_0 : decode cX4_append 0 = .ok (.aload_n 0, 1) := by decide +kernel
set_option maxRecDepth 20000 in
theorem dX4_append_1 : decode cX4_append 1 = .ok (.getfield 15, 3) := by decide +kernel
set_option maxRecDepth 20000 in
theorem dX4_append_4 : decode cX4_append 4 = .ok (.aload_n 0, 1) := by decide +kernel
set_option maxRecDepth 20000 in
theorem dX4_append_5 : decode cX4_append 5 = .ok (.getfield 9, 3) := by decide +kernel
set_option maxRecDepth 20000 in
theorem dX4_append_8 : decode cX4_append 8 = .ok (.arraylength, 1) := by decide +kernel
set_option maxRecDepth 20000 in
theorem dX4_append_9 : decode cX4_append 9 = .ok (.invokestatic 19, 3) := by decide +kernel
set_option maxRecDepth 20000 in
theorem dX4_append_12 : decode cX4_append 12 = .ok (.ifCond .eq 15, 3) := by decide +kernel
set_option maxRecDepth 20000 in
theorem dX4_append_15 : decode cX4_append 15 = .ok (.aload_n 1, 1) := by decide +kernel
set_option maxRecDepth 20000 in
theorem dX4_append_16 : decode cX4_append 16 = .ok (.iconst 1, 1) := by decide +kernel
set_option maxRecDepth 20000 in
theorem dX4_append_17 : decode cX4_append 17 = .ok (.iload_n 2, 1) := by decide +kernel
set_option maxRecDepth 20000 in
theorem dX4_append_18 : decode cX4_append 18 = .ok (.invokestatic 23, 3) := by decide +kernel
set_option maxRecDepth 20000 in
theorem dX4_append_21 : decode cX4_append 21 = .ok (.invokevirtual 27, 3) := by decide +kernel
set_option maxRecDepth 20000 in
theorem dX4_append_24 : decode cX4_append 24 = .ok (.ifCond .ne 5, 3) := by decide +kernel
set_option maxRecDepth 20000 in
theorem dX4_append_27 : decode cX4_append 27 = .ok (.iconst 0, 1) := by decide +kernel
set_option maxRecDepth 20000 in
theorem dX4_append_28 : decode cX4_append 28 = .ok (.ireturn, 1) := by decide +kernel
set_option maxRecDepth 20000 in
theorem dX4_append_29 : decode cX4_append 29 = .ok (.aload_n 0, 1) := by decide +kernel
set_option maxRecDepth 20000 in
theorem dX4_append_30 : decode cX4_append 30 = .ok (.getfield 15, 3) := by decide +kernel
set_option maxRecDepth 20000 in
theorem dX4_append_33 : decode cX4_append 33 = .ok (.ifCond .le 27, 3) := by decide +kernel
set_option maxRecDepth 20000 in
theorem dX4_append_36 : decode cX4_append 36 = .ok (.aload_n 1, 1) := by decide +kernel
set_option maxRecDepth 20000 in
theorem dX4_append_37 : decode cX4_append 37 = .ok (.iload_n 2, 1) := by decide +kernel
set_option maxRecDepth 20000 in
theorem dX4_append_38 : decode cX4_append 38 = .ok (.invokevirtual 32, 3) := by decide +kernel
set_option maxRecDepth 20000 in
theorem dX4_append_41 : decode cX4_append 41 = .ok (.aload_n 1, 1) := by decide +kernel
set_option maxRecDepth 20000 in
theorem dX4_append_42 : decode cX4_append 42 = .ok (.aload_n 0, 1) := by decide +kernel
set_option maxRecDepth 20000 in
theorem dX4_append_43 : decode cX4_append 43 = .ok (.aload_n 0, 1) := by decide +kernel
set_option maxRecDepth 20000 in
theorem dX4_append_44 : decode cX4_append 44 = .ok (.getfield 15, 3) := by decide +kernel
set_option maxRecDepth 20000 in
theorem dX4_append_47 : decode cX4_append 47 = .ok (.iconst 1, 1) := by decide +kernel
set_option maxRecDepth 20000 in
theorem dX4_append_48 : decode cX4_append 48 = .ok (.isub, 1) := by decide +kernel
set_option maxRecDepth 20000 in
theorem dX4_append_49 : decode cX4_append 49 = .ok (.invokevirtual 35, 3) := by decide +kernel
set_option maxRecDepth 20000 in
theorem dX4_append_52 : decode cX4_append 52 = .ok (.invokevirtual 38, 3) := by decide +kernel
set_option maxRecDepth 20000 in
theorem dX4_append_55 : decode cX4_append 55 = .ok (.if_icmp .eq 5, 3) := by decide +kernel
set_option maxRecDepth 20000 in
theorem dX4_append_58 : decode cX4_append 58 = .ok (.iconst 0, 1) := by decide +kernel
set_option maxRecDepth 20000 in
theorem dX4_append_59 : decode cX4_append 59 = .ok (.ireturn, 1) := by decide +kernel
set_option maxRecDepth 20000 in
theorem dX4_append_60 : decode cX4_append 60 = .ok (.aload_n 0, 1) := by decide +kernel
set_option maxRecDepth 20000 in
theorem dX4_append_61 : decode cX4_append 61 = .ok (.getfield 9, 3) := by decide +kernel
set_option maxRecDepth 20000 in
theorem dX4_append_64 : decode cX4_append 64 = .ok (.aload_n 0, 1) := by decide +kernel
set_option maxRecDepth 20000 in
theorem dX4_append_65 : decode cX4_append 65 = .ok (.getfield 15, 3) := by decide +kernel
set_option maxRecDepth 20000 in
theorem dX4_append_68 : decode cX4_append 68 = .ok (.iload_n 2, 1) := by decide +kernel
set_option maxRecDepth 20000 in
theorem dX4_append_69 : decode cX4_append 69 = .ok (.iastore, 1) := by decide +kernel
set_option maxRecDepth 20000 in
theorem dX4_append_70 : decode cX4_append 70 = .ok (.aload_n 0, 1) := by decide +kernel
set_option maxRecDepth 20000 in
theorem dX4_append_71 : decode cX4_append 71 = .ok (.dup, 1) := by decide +kernel
set_option maxRecDepth 20000 in
theorem dX4_append_72 : decode cX4_append 72 = .ok (.getfield 15, 3) := by decide +kernel
set_option maxRecDepth 20000 in
theorem dX4_append_75 : decode cX4_append 75 = .ok (.iconst 1, 1) := by decide +kernel
set_option maxRecDepth 20000 in
theorem dX4_append_76 : decode cX4_append 76 = .ok (.iadd, 1) := by decide +kernel
set_option maxRecDepth 20000 in
theorem dX4_append_77 : decode cX4_append 77 = .ok (.putfield 15, 3) := by decide +kernel
set_option maxRecDepth 20000 in
theorem dX4_append_80 : decode cX4_append 80 = .ok (.iconst 1, 1) := by decide +kernel
set_option maxRecDepth 20000 in
theorem dX4_append_81 : decode cX4_append 81 = .ok (.ireturn, 1) := by decide +kernel
set_option maxRecDepth 20000 in
theorem dX4_isClosed_0 : decode cX4_isClosed 0 = .ok (.aload_n 0, 1) := by decide +kernel
set_option maxRecDepth 20000 in
theorem dX4_isClosed_1 : decode cX4_isClosed 1 = .ok (.getfield 15, 3) := by decide +kernel
set_option maxRecDepth 20000 in
theorem dX4_isClosed_4 : decode cX4_isClosed 4 = .ok (.ifCond .le 33, 3) := by decide +kernel
set_option maxRecDepth 20000 in
theorem dX4_isClosed_7 : decode cX4_isClosed 7 = .ok (.aload_n 1, 1) := by decide +kernel
set_option maxRecDepth 20000 in
theorem dX4_isClosed_8 : decode cX4_isClosed 8 = .ok (.aload_n 0, 1) := by decide +kernel
set_option maxRecDepth 20000 in
theorem dX4_isClosed_9 : decode cX4_isClosed 9 = .ok (.iconst 0, 1) := by decide +kernel
set_option maxRecDepth 20000 in
theorem dX4_isClosed_10 : decode cX4_isClosed 10 = .ok (.invokevirtual 35, 3) := by decide +kernel
set_option maxRecDepth 20000 in
theorem dX4_isClosed_13 : decode cX4_isClosed 13 = .ok (.invokevirtual 32, 3) := by decide +kernel
set_option maxRecDepth 20000 in
theorem dX4_isClosed_16 : decode cX4_isClosed 16 = .ok (.aload_n 1, 1) := by decide +kernel
set_option maxRecDepth 20000 in
theorem dX4_isClosed_17 : decode cX4_isClosed 17 = .ok (.aload_n 0, 1) := by decide +kernel
set_option maxRecDepth 20000 in
theorem dX4_isClosed_18 : decode cX4_isClosed 18 = .ok (.aload_n 0, 1) := by decide +kernel
set_option maxRecDepth 20000 in
theorem dX4_isClosed_19 : decode cX4_isClosed 19 = .ok (.getfield 15, 3) := by decide +kernel
set_option maxRecDepth 20000 in
theorem dX4_isClosed_22 : decode cX4_isClosed 22 = .ok (.iconst 1, 1) := by decide +kernel
set_option maxRecDepth 20000 in
theorem dX4_isClosed_23 : decode cX4_isClosed 23 = .ok (.isub, 1) := by decide +kernel
set_option maxRecDepth 20000 in
theorem dX4_isClosed_24 : decode cX4_isClosed 24 = .ok (.invokevirtual 35, 3) := by decide +kernel
set_option maxRecDepth 20000 in
theorem dX4_isClosed_27 : decode cX4_isClosed 27 = .ok (.invokevirtual 38, 3) := by decide +kernel
set_option maxRecDepth 20000 in
theorem dX4_isClosed_30 : decode cX4_isClosed 30 = .ok (.if_icmp .ne 7, 3) := by decide +kernel
set_option maxRecDepth 20000 in
theorem dX4_isClosed_33 : decode cX4_isClosed 33 = .ok (.iconst 1, 1) := by decide +kernel
set_option maxRecDepth 20000 in
theorem dX4_isClosed_34 : decode cX4_isClosed 34 = .ok (.goto 4, 3) := by decide +kernel
set_option maxRecDepth 20000 in
theorem dX4_isClosed_37 : decode cX4_isClosed 37 = .ok (.iconst 0, 1) := by decide +kernel
set_option maxRecDepth 20000 in
theorem dX4_isClosed_38 : decode cX4_isClosed 38 = .ok (.ireturn, 1) := by decide +kernel
set_option maxRecDepth 20000 in
theorem dX5_init_0 : decode cX5_init 0 = .ok (.aload_n 0, 1) := by decide +kernel
set_option maxRecDepth 20000 in
theorem dX5_init_1 : decode cX5_init 1 = .ok (.invokespecial 1, 3) := by decide +kernel
set_option maxRecDepth 20000 in
theorem dX5_init_4 : decode cX5_init 4 = .ok (.aload_n 0, 1) := by decide +kernel
set_option maxRecDepth 20000 in
theorem dX5_init_5 : decode cX5_init 5 = .ok (.new 7, 3) := by decide +kernel
set_option maxRecDepth 20000 in
theorem dX5_init_8 : decode cX5_init 8 = .ok (.dup, 1) := by decide +kernel
set_option maxRecDepth 20000 in
theorem dX5_init_9 : decode cX5_init 9 = .ok (.invokespecial 9, 3) := by decide +kernel
set_option maxRecDepth 20000 in
theorem dX5_init_12 : decode cX5_init 12 = .ok (.putfield 10, 3) := by decide +kernel
set_option maxRecDepth 20000 in
theorem dX5_init_15 : decode cX5_init 15 = .ok (.aload_n 0, 1) := by decide +kernel
set_option maxRecDepth 20000 in
theorem dX5_init_16 : decode cX5_init 16 = .ok (.new 7, 3) := by decide +kernel
set_option maxRecDepth 20000 in
theorem dX5_init_19 : decode cX5_init 19 = .ok (.dup, 1) := by decide +kernel
set_option maxRecDepth 20000 in
theorem dX5_init_20 : decode cX5_init 20 = .ok (.invokespecial 9, 3) := by decide +kernel
set_option maxRecDepth 20000 in
theorem dX5_init_23 : decode cX5_init 23 = .ok (.putfield 16, 3) := by decide +kernel
set_option maxRecDepth 20000 in
theorem dX5_init_26 : decode cX5_init 26 = .ok (.aload_n 0, 1) := by decide +kernel
set_option maxRecDepth 20000 in
theorem dX5_init_27 : decode cX5_init 27 = .ok (.new 19, 3) := by decide +kernel
set_option maxRecDepth 20000 in
theorem dX5_init_30 : decode cX5_init 30 = .ok (.dup, 1) := by decide +kernel
set_option maxRecDepth 20000 in
theorem dX5_init_31 : decode cX5_init 31 = .ok (.invokespecial 21, 3) := by decide +kernel
set_option maxRecDepth 20000 in
theorem dX5_init_34 : decode cX5_init 34 = .ok (.putfield 22, 3) := by decide +kernel
set_option maxRecDepth 20000 in
theorem dX5_init_37 : decode cX5_init 37 = .ok (.aload_n 0, 1) := by decide +kernel
set_option maxRecDepth 20000 in
theorem dX5_init_38 : decode cX5_init 38 = .ok (.new 26, 3) := by decide +kernel
set_option maxRecDepth 20000 in
theorem dX5_init_41 : decode cX5_init 41 = .ok (.dup, 1) := by decide +kernel
set_option maxRecDepth 20000 in
theorem dX5_init_42 : decode cX5_init 42 = .ok (.invokespecial 28, 3) := by decide +kernel
set_option maxRecDepth 20000 in
theorem dX5_init_45 : decode cX5_init 45 = .ok (.putfield 29, 3) := by decide +kernel
set_option maxRecDepth 20000 in
theorem dX5_init_48 : decode cX5_init 48 = .ok (.aload_n 0, 1) := by decide +kernel
set_option maxRecDepth 20000 in
theorem dX5_init_49 : decode cX5_init 49 = .ok (.new 33, 3) := by decide +kernel
set_option maxRecDepth 20000 in
theorem dX5_init_52 : decode cX5_init 52 = .ok (.dup, 1) := by decide +kernel
set_option maxRecDepth 20000 in
theorem dX5_init_53 : decode cX5_init 53 = .ok (.invokespecial 35, 3) := by decide +kernel
set_option maxRecDepth 20000 in
theorem dX5_init_56 : decode cX5_init 56 = .ok (.putfield 36, 3) := by decide +kernel
set_option maxRecDepth 20000 in
theorem dX5_init_59 : decode cX5_init 59 = .ok (.aload_n 0, 1) := by decide +kernel
set_option maxRecDepth 20000 in
theorem dX5_init_60 : decode cX5_init 60 = .ok (.new 40, 3) := by decide +kernel
set_option maxRecDepth 20000 in
theorem dX5_init_63 : decode cX5_init 63 = .ok (.dup, 1) := by decide +kernel
set_option maxRecDepth 20000 in
theorem dX5_init_64 : decode cX5_init 64 = .ok (.invokespecial 42, 3) := by decide +kernel
set_option maxRecDepth 20000 in
theorem dX5_init_67 : decode cX5_init 67 = .ok (.putfield 43, 3) := by decide +kernel
set_option maxRecDepth 20000 in
theorem dX5_init_70 : decode cX5_init 70 = .ok (.aload_n 0, 1) := by decide +kernel
set_option maxRecDepth 20000 in
theorem dX5_init_71 : decode cX5_init 71 = .ok (.bipush 8, 2) := by decide +kernel
set_option maxRecDepth 20000 in
theorem dX5_init_73 : decode cX5_init 73 = .ok (.bipush 63, 2) := by decide +kernel
set_option maxRecDepth 20000 in
theorem dX5_init_75 : decode cX5_init 75 = .ok (.multianewarray 47 2, 4) := by decide +kernel
set_option maxRecDepth 20000 in
theorem dX5_init_79 : decode cX5_init 79 = .ok (.putfield 49, 3) := by decide +kernel
set_option maxRecDepth 20000 in
theorem dX5_init_82 : decode cX5_init 82 = .ok (.aload_n 0, 1) := by decide +kernel
set_option maxRecDepth 20000 in
theorem dX5_init_83 : decode cX5_init 83 = .ok (.iconst 2, 1) := by decide +kernel
set_option maxRecDepth 20000 in
theorem dX5_init_84 : decode cX5_init 84 = .ok (.bipush 63, 2) := by decide +kernel
set_option maxRecDepth 20000 in
theorem dX5_init_86 : decode cX5_init 86 = .ok (.multianewarray 47 2, 4) := by decide +kernel
set_option maxRecDepth 20000 in
theorem dX5_init_90 : decode cX5_init 90 = .ok (.putfield 52, 3) := by decide +kernel
set_option maxRecDepth 20000 in
theorem dX5_init_93 : decode cX5_init 93 = .ok (.aload_n 0, 1) := by decide +kernel
set_option maxRecDepth 20000 in
theorem dX5_init_94 : decode cX5_init 94 = .ok (.iconst 0, 1) := by decide +kernel
set_option maxRecDepth 20000 in
theorem dX5_init_95 : decode cX5_init 95 = .ok (.putfield 55, 3) := by decide +kernel
set_option maxRecDepth 20000 in
theorem dX5_init_98 : decode cX5_init 98 = .ok (.aload_n 0, 1) := by decide +kernel
set_option maxRecDepth 20000 in
theorem dX5_init_99 : decode cX5_init 99 = .ok (.iconst 0, 1) := by decide +kernel
set_option maxRecDepth 20000 in
theorem dX5_init_100 : decode cX5_init 100 = .ok (.putfield 59, 3) := by decide +kernel
set_option maxRecDepth 20000 in
theorem dX5_init_103 : decode cX5_init 103 = .ok (.aload_n 0, 1) := by decide +kernel
set_option maxRecDepth 20000 in
theorem dX5_init_104 : decode cX5_init 104 = .ok (.iconst 0, 1) := by decide +kernel
set_option maxRecDepth 20000 in
theorem dX5_init_105 : decode cX5_init 105 = .ok (.putfield 62, 3) := by decide +kernel
set_option maxRecDepth 20000 in
theorem dX5_init_108 : decode cX5_init 108 = .ok (.return_, 1) := by decide +kernel
set_option maxRecDepth 20000 in
theorem dX5_feed_0 : decode cX5_feed 0 = .ok (.iload_n 1, 1) := by decide +kernel
set_option maxRecDepth 20000 in
theorem dX5_feed_1 : decode cX5_feed 1 = .ok (.ifCond .lt 10, 3) := by decide +kernel
set_option maxRecDepth 20000 in
theorem dX5_feed_4 : decode cX5_feed 4 = .ok (.iload_n 1, 1) := by decide +kernel
set_option maxRecDepth 20000 in
theorem dX5_feed_5 : decode cX5_feed 5 = .ok (.sipush 255, 3) := by decide +kernel
set_option maxRecDepth 20000 in
theorem dX5_feed_8 : decode cX5_feed 8 = .ok (.if_icmp .le 6, 3) := by decide +kernel
set_option maxRecDepth 20000 in
theorem dX5_feed_11 : decode cX5_feed 11 = .ok (.ldc 65, 2) := by decide +kernel
set_option maxRecDepth 20000 in
theorem dX5_feed_13 : decode cX5_feed 13 = .ok (.ireturn, 1) := by decide +kernel
set_option maxRecDepth 20000 in
theorem dX5_feed_14 : decode cX5_feed 14 = .ok (.aload_n 0, 1) := by decide +kernel
set_option maxRecDepth 20000 in
theorem dX5_feed_15 : decode cX5_feed 15 = .ok (.getfield 22, 3) := by decide +kernel
set_option maxRecDepth 20000 in
theorem dX5_feed_18 : decode cX5_feed 18 = .ok (.iload_n 1, 1) := by decide +kernel
set_option maxRecDepth 20000 in
theorem dX5_feed_19 : decode cX5_feed 19 = .ok (.invokevirtual 66, 3) := by decide +kernel
set_option maxRecDepth 20000 in
theorem dX5_feed_22 : decode cX5_feed 22 = .ok (.ifCond .eq 13, 3) := by decide +kernel
set_option maxRecDepth 20000 in
theorem dX5_feed_25 : decode cX5_feed 25 = .ok (.aload_n 0, 1) := by decide +kernel
set_option maxRecDepth 20000 in
theorem dX5_feed_26 : decode cX5_feed 26 = .ok (.getfield 22, 3) := by decide +kernel
set_option maxRecDepth 20000 in
theorem dX5_feed_29 : decode cX5_feed 29 = .ok (.invokevirtual 70, 3) := by decide +kernel
set_option maxRecDepth 20000 in
theorem dX5_feed_32 : decode cX5_feed 32 = .ok (.goto 5, 3) := by decide +kernel
set_option maxRecDepth 20000 in
theorem dX5_feed_35 : decode cX5_feed 35 = .ok (.ldc 74, 2) := by decide +kernel
set_option maxRecDepth 20000 in
theorem dX5_feed_37 : decode cX5_feed 37 = .ok (.ireturn, 1) := by decide +kernel
set_option maxRecDepth 20000 in
theorem dX5_complex_0 : decode cX5_complex 0 = .ok (.aload_n 0, 1) := by decide +kernel
set_option maxRecDepth 20000 in
theorem dX5_complex_1 : decode cX5_complex 1 = .ok (.getfield 22, 3) := by decide +kernel
set_option maxRecDepth 20000 in
theorem dX5_complex_4 : decode cX5_complex 4 = .ok (.aload_n 0, 1) := by decide +kernel
set_option maxRecDepth 20000 in
theorem dX5_complex_5 : decode cX5_complex 5 = .ok (.getfield 16, 3) := by decide +kernel
set_option maxRecDepth 20000 in
theorem dX5_complex_8 : decode cX5_complex 8 = .ok (.aload_n 0, 1) := by decide +kernel
set_option maxRecDepth 20000 in
theorem dX5_complex_9 : decode cX5_complex 9 = .ok (.getfield 29, 3) := by decide +kernel
set_option maxRecDepth 20000 in
theorem dX5_complex_12 : decode cX5_complex 12 = .ok (.invokevirtual 75, 3) := by decide +kernel
set_option maxRecDepth 20000 in
theorem dX5_complex_15 : decode cX5_complex 15 = .ok (.istore_n 1, 1) := by decide +kernel
set_option maxRecDepth 20000 in
theorem dX5_complex_16 : decode cX5_complex 16 = .ok (.aload_n 0, 1) := by decide +kernel
set_option maxRecDepth 20000 in
theorem dX5_complex_17 : decode cX5_complex 17 = .ok (.getfield 22, 3) := by decide +kernel
set_option maxRecDepth 20000 in
theorem dX5_complex_20 : decode cX5_complex 20 = .ok (.invokevirtual 79, 3) := by decide +kernel
set_option maxRecDepth 20000 in
theorem dX5_complex_23 : decode cX5_complex 23 = .ok (.iload_n 1, 1) := by decide +kernel
set_option maxRecDepth 20000 in
theorem dX5_complex_24 : decode cX5_complex 24 = .ok (.ifCond .ne 25, 3) := by decide +kernel
set_option maxRecDepth 20000 in
theorem dX5_complex_27 : decode cX5_complex 27 = .ok (.aload_n 0, 1) := by decide +kernel
set_option maxRecDepth 20000 in
theorem dX5_complex_28 : decode cX5_complex 28 = .ok (.aload_n 0, 1) := by decide +kernel
set_option maxRecDepth 20000 in
theorem dX5_complex_29 : decode cX5_complex 29 = .ok (.getfield 22, 3) := by decide +kernel
set_option maxRecDepth 20000 in
theorem dX5_complex_32 : decode cX5_complex 32 = .ok (.invokevirtual 82, 3) := by decide +kernel
set_option maxRecDepth 20000 in
theorem dX5_complex_35 : decode cX5_complex 35 = .ok (.putfield 62, 3) := by decide +kernel
set_option maxRecDepth 20000 in
theorem dX5_complex_38 : decode cX5_complex 38 = .ok (.ldc 85, 2) := by decide +kernel
set_option maxRecDepth 20000 in
theorem dX5_complex_40 : decode cX5_complex 40 = .ok (.aload_n 0, 1) := by decide +kernel
set_option maxRecDepth 20000 in
theorem dX5_complex_41 : decode cX5_complex 41 = .ok (.getfield 22, 3) := by decide +kernel
set_option maxRecDepth 20000 in
theorem dX5_complex_44 : decode cX5_complex 44 = .ok (.invokevirtual 86, 3) := by decide +kernel
set_option maxRecDepth 20000 in
theorem dX5_complex_47 : decode cX5_complex 47 = .ok (.isub, 1) := by decide +kernel
set_option maxRecDepth 20000 in
theorem dX5_complex_48 : decode cX5_complex 48 = .ok (.ireturn, 1) := by decide +kernel
set_option maxRecDepth 20000 in
theorem dX5_complex_49 : decode cX5_complex 49 = .ok (.aload_n 0, 1) := by decide +kernel
set_option maxRecDepth 20000 in
theorem dX5_complex_50 : decode cX5_complex 50 = .ok (.getfield 10, 3) := by decide +kernel
set_option maxRecDepth 20000 in
theorem dX5_complex_53 : decode cX5_complex 53 = .ok (.aload_n 0, 1) := by decide +kernel
set_option maxRecDepth 20000 in
theorem dX5_complex_54 : decode cX5_complex 54 = .ok (.getfield 16, 3) := by decide +kernel
set_option maxRecDepth 20000 in
theorem dX5_complex_57 : decode cX5_complex 57 = .ok (.invokevirtual 89, 3) := by decide +kernel
set_option maxRecDepth 20000 in
theorem dX5_complex_60 : decode cX5_complex 60 = .ok (.invokevirtual 93, 3) := by decide +kernel
set_option maxRecDepth 20000 in
theorem dX5_complex_63 : decode cX5_complex 63 = .ok (.aload_n 0, 1) := by decide +kernel
set_option maxRecDepth 20000 in
theorem dX5_complex_64 : decode cX5_complex 64 = .ok (.iconst 0, 1) := by decide +kernel
set_option maxRecDepth 20000 in
theorem dX5_complex_65 : decode cX5_complex 65 = .ok (.putfield 59, 3) := by decide +kernel
set_option maxRecDepth 20000 in
theorem dX5_complex_68 : decode cX5_complex 68 = .ok (.aload_n 0, 1) := by decide +kernel
set_option maxRecDepth 20000 in
theorem dX5_complex_69 : decode cX5_complex 69 = .ok (.getfield 10, 3) := by decide +kernel
set_option maxRecDepth 20000 in
theorem dX5_complex_72 : decode cX5_complex 72 = .ok (.iconst 0, 1) := by decide +kernel
set_option maxRecDepth 20000 in
theorem dX5_complex_73 : decode cX5_complex 73 = .ok (.invokevirtual 97, 3) := by decide +kernel
set_option maxRecDepth 20000 in
theorem dX5_complex_76 : decode cX5_complex 76 = .ok (.aload_n 0, 1) := by decide +kernel
set_option maxRecDepth 20000 in
theorem dX5_complex_77 : decode cX5_complex 77 = .ok (.getfield 10, 3) := by decide +kernel
set_option maxRecDepth 20000 in
theorem dX5_complex_80 : decode cX5_complex 80 = .ok (.iconst 1, 1) := by decide +kernel
set_option maxRecDepth 20000 in
theorem dX5_complex_81 : decode cX5_complex 81 = .ok (.invokevirtual 97, 3) := by decide +kernel
set_option maxRecDepth 20000 in
theorem dX5_complex_84 : decode cX5_complex 84 = .ok (.iadd, 1) := by decide +kernel
set_option maxRecDepth 20000 in
theorem dX5_complex_85 : decode cX5_complex 85 = .ok (.aload_n 0, 1) := by decide +kernel
set_option maxRecDepth 20000 in
theorem dX5_complex_86 : decode cX5_complex 86 = .ok (.getfield 10, 3) := by decide +kernel
set_option maxRecDepth 20000 in
theorem dX5_complex_89 : decode cX5_complex 89 = .ok (.iconst 2, 1) := by decide +kernel
set_option maxRecDepth 20000 in
theorem dX5_complex_90 : decode cX5_complex 90 = .ok (.invokevirtual 97, 3) := by decide +kernel
set_option maxRecDepth 20000 in
theorem dX5_complex_93 : decode cX5_complex 93 = .ok (.iadd, 1) := by decide +kernel
set_option maxRecDepth 20000 in
theorem dX5_complex_94 : decode cX5_complex 94 = .ok (.ireturn, 1) := by decide +kernel
set_option maxRecDepth 20000 in
theorem dX5_weigh_0 : decode cX5_weigh 0 = .ok (.aload_n 0, 1) := by decide +kernel
set_option maxRecDepth 20000 in
theorem dX5_weigh_1 : decode cX5_weigh 1 = .ok (.iload_n 1, 1) := by decide +kernel
set_option maxRecDepth 20000 in
theorem dX5_weigh_2 : decode cX5_weigh 2 = .ok (.iload_n 2, 1) := by decide +kernel
set_option maxRecDepth 20000 in
theorem dX5_weigh_3 : decode cX5_weigh 3 = .ok (.invokevirtual 106, 3) := by decide +kernel
set_option maxRecDepth 20000 in
theorem dX5_weigh_6 : decode cX5_weigh 6 = .ok (.ifCond .eq 10, 3) := by decide +kernel
set_option maxRecDepth 20000 in
theorem dX5_weigh_9 : decode cX5_weigh 9 = .ok (.iload_n 3, 1) := by decide +kernel
set_option maxRecDepth 20000 in
theorem dX5_weigh_10 : decode cX5_weigh 10 = .ok (.invokestatic 109, 3) := by decide +kernel
set_option maxRecDepth 20000 in
theorem dX5_weigh_13 : decode cX5_weigh 13 = .ok (.ifCond .ne 6, 3) := by decide +kernel
set_option maxRecDepth 20000 in
theorem dX5_weigh_16 : decode cX5_weigh 16 = .ok (.ldc 65, 2) := by decide +kernel
set_option maxRecDepth 20000 in
theorem dX5_weigh_18 : decode cX5_weigh 18 = .ok (.ireturn, 1) := by decide +kernel
set_option maxRecDepth 20000 in
theorem dX5_weigh_19 : decode cX5_weigh 19 = .ok (.aload_n 0, 1) := by decide +kernel
set_option maxRecDepth 20000 in
theorem dX5_weigh_20 : decode cX5_weigh 20 = .ok (.getfield 10, 3) := by decide +kernel
set_option maxRecDepth 20000 in
theorem dX5_weigh_23 : decode cX5_weigh 23 = .ok (.iload_n 1, 1) := by decide +kernel
set_option maxRecDepth 20000 in
theorem dX5_weigh_24 : decode cX5_weigh 24 = .ok (.iload_n 2, 1) := by decide +kernel
set_option maxRecDepth 20000 in
theorem dX5_weigh_25 : decode cX5_weigh 25 = .ok (.invokevirtual 112, 3) := by decide +kernel
set_option maxRecDepth 20000 in
theorem dX5_weigh_28 : decode cX5_weigh 28 = .ok (.istore 4, 2) := by decide +kernel
set_option maxRecDepth 20000 in
theorem dX5_weigh_30 : decode cX5_weigh 30 = .ok (.aload_n 0, 1) := by decide +kernel
set_option maxRecDepth 20000 in
theorem dX5_weigh_31 : decode cX5_weigh 31 = .ok (.invokevirtual 116, 3) := by decide +kernel
set_option maxRecDepth 20000 in
theorem dX5_weigh_34 : decode cX5_weigh 34 = .ok (.aload_n 0, 1) := by decide +kernel
set_option maxRecDepth 20000 in
theorem dX5_weigh_35 : decode cX5_weigh 35 = .ok (.getfield 10, 3) := by decide +kernel
set_option maxRecDepth 20000 in
theorem dX5_weigh_38 : decode cX5_weigh 38 = .ok (.iload_n 1, 1) := by decide +kernel
set_option maxRecDepth 20000 in
theorem dX5_weigh_39 : decode cX5_weigh 39 = .ok (.iload_n 2, 1) := by decide +kernel
set_option maxRecDepth 20000 in
theorem dX5_weigh_40 : decode cX5_weigh 40 = .ok (.iload_n 3, 1) := by decide +kernel
set_option maxRecDepth 20000 in
theorem dX5_weigh_41 : decode cX5_weigh 41 = .ok (.invokevirtual 119, 3) := by decide +kernel
set_option maxRecDepth 20000 in
theorem dX5_weigh_44 : decode cX5_weigh 44 = .ok (.iload 4, 2) := by decide +kernel
set_option maxRecDepth 20000 in
theorem dX5_weigh_46 : decode cX5_weigh 46 = .ok (.ireturn, 1) := by decide +kernel
set_option maxRecDepth 20000 in
theorem dX5_edge_0 : decode cX5_edge 0 = .ok (.aload_n 0, 1) := by decide +kernel
set_option maxRecDepth 20000 in
theorem dX5_edge_1 : decode cX5_edge 1 = .ok (.getfield 10, 3) := by decide +kernel
set_option maxRecDepth 20000 in
theorem dX5_edge_4 : decode cX5_edge 4 = .ok (.invokevirtual 123, 3) := by decide +kernel
set_option maxRecDepth 20000 in
theorem dX5_edge_7 : decode cX5_edge 7 = .ok (.ifCond .ne 6, 3) := by decide +kernel
set_option maxRecDepth 20000 in
theorem dX5_edge_10 : decode cX5_edge 10 = .ok (.ldc 105, 2) := by decide +kernel
set_option maxRecDepth 20000 in
theorem dX5_edge_12 : decode cX5_edge 12 = .ok (.ireturn, 1) := by decide +kernel
set_option maxRecDepth 20000 in
theorem dX5_edge_13 : decode cX5_edge 13 = .ok (.aload_n 0, 1) := by decide +kernel
set_option maxRecDepth 20000 in
theorem dX5_edge_14 : decode cX5_edge 14 = .ok (.getfield 10, 3) := by decide +kernel
set_option maxRecDepth 20000 in
theorem dX5_edge_17 : decode cX5_edge 17 = .ok (.iconst 0, 1) := by decide +kernel
set_option maxRecDepth 20000 in
theorem dX5_edge_18 : decode cX5_edge 18 = .ok (.iload_n 1, 1) := by decide +kernel
set_option maxRecDepth 20000 in
theorem dX5_edge_19 : decode cX5_edge 19 = .ok (.invokevirtual 127, 3) := by decide +kernel
set_option maxRecDepth 20000 in
theorem dX5_edge_22 : decode cX5_edge 22 = .ok (.ifCond .eq 22, 3) := by decide +kernel
set_option maxRecDepth 20000 in
theorem dX5_edge_25 : decode cX5_edge 25 = .ok (.aload_n 0, 1) := by decide +kernel
set_option maxRecDepth 20000 in
theorem dX5_edge_26 : decode cX5_edge 26 = .ok (.getfield 10, 3) := by decide +kernel
set_option maxRecDepth 20000 in
theorem dX5_edge_29 : decode cX5_edge 29 = .ok (.iconst 0, 1) := by decide +kernel
set_option maxRecDepth 20000 in
theorem dX5_edge_30 : decode cX5_edge 30 = .ok (.iload_n 2, 1) := by decide +kernel
set_option maxRecDepth 20000 in
theorem dX5_edge_31 : decode cX5_edge 31 = .ok (.invokevirtual 127, 3) := by decide +kernel
set_option maxRecDepth 20000 in
theorem dX5_edge_34 : decode cX5_edge 34 = .ok (.ifCond .eq 10, 3) := by decide +kernel
set_option maxRecDepth 20000 in
theorem dX5_edge_37 : decode cX5_edge 37 = .ok (.iload_n 3, 1) := by decide +kernel
set_option maxRecDepth 20000 in
theorem dX5_edge_38 : decode cX5_edge 38 = .ok (.invokestatic 109, 3) := by decide +kernel
set_option maxRecDepth 20000 in
theorem dX5_edge_41 : decode cX5_edge 41 = .ok (.ifCond .ne 6, 3) := by decide +kernel
set_option maxRecDepth 20000 in
theorem dX5_edge_44 : decode cX5_edge 44 = .ok (.ldc 65, 2) := by decide +kernel
set_option maxRecDepth 20000 in
theorem dX5_edge_46 : decode cX5_edge 46 = .ok (.ireturn, 1) := by decide +kernel
set_option maxRecDepth 20000 in
theorem dX5_edge_47 : decode cX5_edge 47 = .ok (.aload_n 0, 1) := by decide +kernel
set_option maxRecDepth 20000 in
theorem dX5_edge_48 : decode cX5_edge 48 = .ok (.getfield 10, 3) := by decide +kernel
set_option maxRecDepth 20000 in
theorem dX5_edge_51 : decode cX5_edge 51 = .ok (.iconst 1, 1) := by decide +kernel
set_option maxRecDepth 20000 in
theorem dX5_edge_52 : decode cX5_edge 52 = .ok (.invokevirtual 97, 3) := by decide +kernel
set_option maxRecDepth 20000 in
theorem dX5_edge_55 : decode cX5_edge 55 = .ok (.bipush 6, 2) := by decide +kernel
set_option maxRecDepth 20000 in
theorem dX5_edge_57 : decode cX5_edge 57 = .ok (.if_icmp .lt 6, 3) := by decide +kernel
set_option maxRecDepth 20000 in
theorem dX5_edge_60 : decode cX5_edge 60 = .ok (.ldc 74, 2) := by decide +kernel
set_option maxRecDepth 20000 in
theorem dX5_edge_62 : decode cX5_edge 62 = .ok (.ireturn, 1) := by decide +kernel
set_option maxRecDepth 20000 in
theorem dX5_edge_63 : decode cX5_edge 63 = .ok (.aload_n 0, 1) := by decide +kernel
set_option maxRecDepth 20000 in
theorem dX5_edge_64 : decode cX5_edge 64 = .ok (.invokevirtual 116, 3) := by decide +kernel
set_option maxRecDepth 20000 in
theorem dX5_edge_67 : decode cX5_edge 67 = .ok (.aload_n 0, 1) := by decide +kernel
set_option maxRecDepth 20000 in
theorem dX5_edge_68 : decode cX5_edge 68 = .ok (.getfield 10, 3) := by decide +kernel
set_option maxRecDepth 20000 in
theorem dX5_edge_71 : decode cX5_edge 71 = .ok (.iload_n 1, 1) := by decide +kernel
set_option maxRecDepth 20000 in
theorem dX5_edge_72 : decode cX5_edge 72 = .ok (.iload_n 2, 1) := by decide +kernel
set_option maxRecDepth 20000 in
theorem dX5_edge_73 : decode cX5_edge 73 = .ok (.iload_n 3, 1) := by decide +kernel
set_option maxRecDepth 20000 in
theorem dX5_edge_74 : decode cX5_edge 74 = .ok (.invokevirtual 130, 3) := by decide +kernel
set_option maxRecDepth 20000 in
theorem dX5_edge_77 : decode cX5_edge 77 = .ok (.aload_n 0, 1) := by decide +kernel
set_option maxRecDepth 20000 in
theorem dX5_edge_78 : decode cX5_edge 78 = .ok (.getfield 10, 3) := by decide +kernel
set_option maxRecDepth 20000 in
theorem dX5_edge_81 : decode cX5_edge 81 = .ok (.iconst 1, 1) := by decide +kernel
set_option maxRecDepth 20000 in
theorem dX5_edge_82 : decode cX5_edge 82 = .ok (.invokevirtual 97, 3) := by decide +kernel
set_option maxRecDepth 20000 in
theorem dX5_edge_85 : decode cX5_edge 85 = .ok (.iconst 1, 1) := by decide +kernel
set_option maxRecDepth 20000 in
theorem dX5_edge_86 : decode cX5_edge 86 = .ok (.isub, 1) := by decide +kernel
set_option maxRecDepth 20000 in
theorem dX5_edge_87 : decode cX5_edge 87 = .ok (.ireturn, 1) := by decide +kernel
set_option maxRecDepth 20000 in
theorem dX5_face_0 : decode cX5_face 0 = .ok (.aload_n 0, 1) := by decide +kernel
set_option maxRecDepth 20000 in
theorem dX5_face_1 : decode cX5_face 1 = .ok (.getfield 22, 3) := by decide +kernel
set_option maxRecDepth 20000 in
theorem dX5_face_4 : decode cX5_face 4 = .ok (.aload_n 0, 1) := by decide +kernel
set_option maxRecDepth 20000 in
theorem dX5_face_5 : decode cX5_face 5 = .ok (.getfield 10, 3) := by decide +kernel
set_option maxRecDepth 20000 in
theorem dX5_face_8 : decode cX5_face 8 = .ok (.aload_n 0, 1) := by decide +kernel
set_option maxRecDepth 20000 in
theorem dX5_face_9 : decode cX5_face 9 = .ok (.getfield 29, 3) := by decide +kernel
set_option maxRecDepth 20000 in
theorem dX5_face_12 : decode cX5_face 12 = .ok (.invokevirtual 133, 3) := by decide +kernel
set_option maxRecDepth 20000 in
theorem dX5_face_15 : decode cX5_face 15 = .ok (.istore_n 2, 1) := by decide +kernel
set_option maxRecDepth 20000 in
theorem dX5_face_16 : decode cX5_face 16 = .ok (.aload_n 0, 1) := by decide +kernel
set_option maxRecDepth 20000 in
theorem dX5_face_17 : decode cX5_face 17 = .ok (.getfield 22, 3) := by decide +kernel
set_option maxRecDepth 20000 in
theorem dX5_face_20 : decode cX5_face 20 = .ok (.invokevirtual 79, 3) := by decide +kernel
set_option maxRecDepth 20000 in
theorem dX5_face_23 : decode cX5_face 23 = .ok (.aload_n 0, 1) := by decide +kernel
set_option maxRecDepth 20000 in
theorem dX5_face_24 : decode cX5_face 24 = .ok (.getfield 10, 3) := by decide +kernel
set_option maxRecDepth 20000 in
theorem dX5_face_27 : decode cX5_face 27 = .ok (.invokevirtual 123, 3) := by decide +kernel
set_option maxRecDepth 20000 in
theorem dX5_face_30 : decode cX5_face 30 = .ok (.ifCond .ne 6, 3) := by decide +kernel
set_option maxRecDepth 20000 in
theorem dX5_face_33 : decode cX5_face 33 = .ok (.ldc 105, 2) := by decide +kernel
set_option maxRecDepth 20000 in
theorem dX5_face_35 : decode cX5_face 35 = .ok (.ireturn, 1) := by decide +kernel
set_option maxRecDepth 20000 in
theorem dX5_face_36 : decode cX5_face 36 = .ok (.iload_n 2, 1) := by decide +kernel
set_option maxRecDepth 20000 in
theorem dX5_face_37 : decode cX5_face 37 = .ok (.ifCond .eq 10, 3) := by decide +kernel
set_option maxRecDepth 20000 in
theorem dX5_face_40 : decode cX5_face 40 = .ok (.iload_n 1, 1) := by decide +kernel
set_option maxRecDepth 20000 in
theorem dX5_face_41 : decode cX5_face 41 = .ok (.invokestatic 109, 3) := by decide +kernel
set_option maxRecDepth 20000 in
theorem dX5_face_44 : decode cX5_face 44 = .ok (.ifCond .ne 6, 3) := by decide +kernel
set_option maxRecDepth 20000 in
theorem dX5_face_47 : decode cX5_face 47 = .ok (.ldc 65, 2) := by decide +kernel
set_option maxRecDepth 20000 in
theorem dX5_face_49 : decode cX5_face 49 = .ok (.ireturn, 1) := by decide +kernel
set_option maxRecDepth 20000 in
theorem dX5_face_50 : decode cX5_face 50 = .ok (.aload_n 0, 1) := by decide +kernel
set_option maxRecDepth 20000 in
theorem dX5_face_51 : decode cX5_face 51 = .ok (.getfield 10, 3) := by decide +kernel
set_option maxRecDepth 20000 in
theorem dX5_face_54 : decode cX5_face 54 = .ok (.iconst 2, 1) := by decide +kernel
set_option maxRecDepth 20000 in
theorem dX5_face_55 : decode cX5_face 55 = .ok (.invokevirtual 97, 3) := by decide +kernel
set_option maxRecDepth 20000 in
theorem dX5_face_58 : decode cX5_face 58 = .ok (.iconst 4, 1) := by decide +kernel
set_option maxRecDepth 20000 in
theorem dX5_face_59 : decode cX5_face 59 = .ok (.if_icmp .lt 6, 3) := by decide +kernel
set_option maxRecDepth 20000 in
theorem dX5_face_62 : decode cX5_face 62 = .ok (.ldc 74, 2) := by decide +kernel
set_option maxRecDepth 20000 in
theorem dX5_face_64 : decode cX5_face 64 = .ok (.ireturn, 1) := by decide +kernel
set_option maxRecDepth 20000 in
theorem dX5_face_65 : decode cX5_face 65 = .ok (.aload_n 0, 1) := by decide +kernel
set_option maxRecDepth 20000 in
theorem dX5_face_66 : decode cX5_face 66 = .ok (.invokevirtual 116, 3) := by decide +kernel
set_option maxRecDepth 20000 in
theorem dX5_face_69 : decode cX5_face 69 = .ok (.aload_n 0, 1) := by decide +kernel
set_option maxRecDepth 20000 in
theorem dX5_face_70 : decode cX5_face 70 = .ok (.getfield 10, 3) := by decide +kernel
set_option maxRecDepth 20000 in
theorem dX5_face_73 : decode cX5_face 73 = .ok (.aload_n 0, 1) := by decide +kernel
set_option maxRecDepth 20000 in
theorem dX5_face_74 : decode cX5_face 74 = .ok (.getfield 29, 3) := by decide +kernel
set_option maxRecDepth 20000 in
theorem dX5_face_77 : decode cX5_face 77 = .ok (.iload_n 1, 1) := by decide +kernel
set_option maxRecDepth 20000 in
theorem dX5_face_78 : decode cX5_face 78 = .ok (.invokevirtual 136, 3) := by decide +kernel
set_option maxRecDepth 20000 in
theorem dX5_face_81 : decode cX5_face 81 = .ok (.aload_n 0, 1) := by decide +kernel
set_option maxRecDepth 20000 in
theorem dX5_face_82 : decode cX5_face 82 = .ok (.getfield 10, 3) := by decide +kernel
set_option maxRecDepth 20000 in
theorem dX5_face_85 : decode cX5_face 85 = .ok (.iconst 2, 1) := by decide +kernel
set_option maxRecDepth 20000 in
theorem dX5_face_86 : decode cX5_face 86 = .ok (.invokevirtual 97, 3) := by decide +kernel
set_option maxRecDepth 20000 in
theorem dX5_face_89 : decode cX5_face 89 = .ok (.iconst 1, 1) := by decide +kernel
set_option maxRecDepth 20000 in
theorem dX5_face_90 : decode cX5_face 90 = .ok (.isub, 1) := by decide +kernel
set_option maxRecDepth 20000 in
theorem dX5_face_91 : decode cX5_face 91 = .ok (.ireturn, 1) := by decide +kernel
set_option maxRecDepth 20000 in
theorem dX5_drop_0 : decode cX5_drop 0 = .ok (.aload_n 0, 1) := by decide +kernel
set_option maxRecDepth 20000 in
theorem dX5_drop_1 : decode cX5_drop 1 = .ok (.iload_n 1, 1) := by decide +kernel
set_option maxRecDepth 20000 in
theorem dX5_drop_2 : decode cX5_drop 2 = .ok (.iload_n 2, 1) := by decide +kernel
set_option maxRecDepth 20000 in
theorem dX5_drop_3 : decode cX5_drop 3 = .ok (.invokevirtual 106, 3) := by decide +kernel
set_option maxRecDepth 20000 in
theorem dX5_drop_6 : decode cX5_drop 6 = .ok (.ifCond .ne 6, 3) := by decide +kernel
set_option maxRecDepth 20000 in
theorem dX5_drop_9 : decode cX5_drop 9 = .ok (.ldc 65, 2) := by decide +kernel
set_option maxRecDepth 20000 in
theorem dX5_drop_11 : decode cX5_drop 11 = .ok (.ireturn, 1) := by decide +kernel
set_option maxRecDepth 20000 in
theorem dX5_drop_12 : decode cX5_drop 12 = .ok (.iload_n 1, 1) := by decide +kernel
set_option maxRecDepth 20000 in
theorem dX5_drop_13 : decode cX5_drop 13 = .ok (.iconst 1, 1) := by decide +kernel
set_option maxRecDepth 20000 in
theorem dX5_drop_14 : decode cX5_drop 14 = .ok (.if_icmp .ne 17, 3) := by decide +kernel
set_option maxRecDepth 20000 in
theorem dX5_drop_17 : decode cX5_drop 17 = .ok (.aload_n 0, 1) := by decide +kernel
set_option maxRecDepth 20000 in
theorem dX5_drop_18 : decode cX5_drop 18 = .ok (.getfield 10, 3) := by decide +kernel
set_option maxRecDepth 20000 in
theorem dX5_drop_21 : decode cX5_drop 21 = .ok (.iload_n 2, 1) := by decide +kernel
set_option maxRecDepth 20000 in
theorem dX5_drop_22 : decode cX5_drop 22 = .ok (.invokevirtual 140, 3) := by decide +kernel
set_option maxRecDepth 20000 in
theorem dX5_drop_25 : decode cX5_drop 25 = .ok (.ifCond .eq 6, 3) := by decide +kernel
set_option maxRecDepth 20000 in
theorem dX5_drop_28 : decode cX5_drop 28 = .ok (.ldc 105, 2) := by decide +kernel
set_option maxRecDepth 20000 in
theorem dX5_drop_30 : decode cX5_drop 30 = .ok (.ireturn, 1) := by decide +kernel
set_option maxRecDepth 20000 in
theorem dX5_drop_31 : decode cX5_drop 31 = .ok (.aload_n 0, 1) := by decide +kernel
set_option maxRecDepth 20000 in
theorem dX5_drop_32 : decode cX5_drop 32 = .ok (.invokevirtual 116, 3) := by decide +kernel
set_option maxRecDepth 20000 in
theorem dX5_drop_35 : decode cX5_drop 35 = .ok (.iload_n 1, 1) := by decide +kernel
set_option maxRecDepth 20000 in
theorem dX5_drop_36 : decode cX5_drop 36 = .ok (.iconst 1, 1) := by decide +kernel
set_option maxRecDepth 20000 in
theorem dX5_drop_37 : decode cX5_drop 37 = .ok (.if_icmp .ne 14, 3) := by decide +kernel
set_option maxRecDepth 20000 in
theorem dX5_drop_40 : decode cX5_drop 40 = .ok (.aload_n 0, 1) := by decide +kernel
set_option maxRecDepth 20000 in
theorem dX5_drop_41 : decode cX5_drop 41 = .ok (.getfield 10, 3) := by decide +kernel
set_option maxRecDepth 20000 in
theorem dX5_drop_44 : decode cX5_drop 44 = .ok (.iload_n 2, 1) := by decide +kernel
set_option maxRecDepth 20000 in
theorem dX5_drop_45 : decode cX5_drop 45 = .ok (.invokevirtual 143, 3) := by decide +kernel
set_option maxRecDepth 20000 in
theorem dX5_drop_48 : decode cX5_drop 48 = .ok (.goto 11, 3) := by decide +kernel
set_option maxRecDepth 20000 in
theorem dX5_drop_51 : decode cX5_drop 51 = .ok (.aload_n 0, 1) := by decide +kernel
set_option maxRecDepth 20000 in
theorem dX5_drop_52 : decode cX5_drop 52 = .ok (.getfield 10, 3) := by decide +kernel
set_option maxRecDepth 20000 in
theorem dX5_drop_55 : decode cX5_drop 55 = .ok (.iload_n 2, 1) := by decide +kernel
set_option maxRecDepth 20000 in
theorem dX5_drop_56 : decode cX5_drop 56 = .ok (.invokevirtual 147, 3) := by decide +kernel
set_option maxRecDepth 20000 in
theorem dX5_drop_59 : decode cX5_drop 59 = .ok (.aload_n 0, 1) := by decide +kernel
set_option maxRecDepth 20000 in
theorem dX5_drop_60 : decode cX5_drop 60 = .ok (.getfield 10, 3) := by decide +kernel
set_option maxRecDepth 20000 in
theorem dX5_drop_63 : decode cX5_drop 63 = .ok (.iload_n 1, 1) := by decide +kernel
set_option maxRecDepth 20000 in
theorem dX5_drop_64 : decode cX5_drop 64 = .ok (.invokevirtual 97, 3) := by decide +kernel
set_option maxRecDepth 20000 in
theorem dX5_drop_67 : decode cX5_drop 67 = .ok (.ireturn, 1) := by decide +kernel
set_option maxRecDepth 20000 in
theorem dX5_put_0 : decode cX5_put 0 = .ok (.iload_n 1, 1) := by decide +kernel
set_option maxRecDepth 20000 in
theorem dX5_put_1 : decode cX5_put 1 = .ok (.invokestatic 150, 3) := by decide +kernel
set_option maxRecDepth 20000 in
theorem dX5_put_4 : decode cX5_put 4 = .ok (.ifCond .eq 22, 3) := by decide +kernel
set_option maxRecDepth 20000 in
theorem dX5_put_7 : decode cX5_put 7 = .ok (.aload_n 0, 1) := by decide +kernel
set_option maxRecDepth 20000 in
theorem dX5_put_8 : decode cX5_put 8 = .ok (.getfield 10, 3) := by decide +kernel
set_option maxRecDepth 20000 in
theorem dX5_put_11 : decode cX5_put 11 = .ok (.iconst 1, 1) := by decide +kernel
set_option maxRecDepth 20000 in
theorem dX5_put_12 : decode cX5_put 12 = .ok (.iload_n 2, 1) := by decide +kernel
set_option maxRecDepth 20000 in
theorem dX5_put_13 : decode cX5_put 13 = .ok (.invokevirtual 127, 3) := by decide +kernel
set_option maxRecDepth 20000 in
theorem dX5_put_16 : decode cX5_put 16 = .ok (.ifCond .eq 10, 3) := by decide +kernel
set_option maxRecDepth 20000 in
theorem dX5_put_19 : decode cX5_put 19 = .ok (.iload_n 3, 1) := by decide +kernel
set_option maxRecDepth 20000 in
theorem dX5_put_20 : decode cX5_put 20 = .ok (.invokestatic 153, 3) := by decide +kernel
set_option maxRecDepth 20000 in
theorem dX5_put_23 : decode cX5_put 23 = .ok (.ifCond .ne 6, 3) := by decide +kernel
set_option maxRecDepth 20000 in
theorem dX5_put_26 : decode cX5_put 26 = .ok (.ldc 65, 2) := by decide +kernel
set_option maxRecDepth 20000 in
theorem dX5_put_28 : decode cX5_put 28 = .ok (.ireturn, 1) := by decide +kernel
set_option maxRecDepth 20000 in
theorem dX5_put_29 : decode cX5_put 29 = .ok (.aload_n 0, 1) := by decide +kernel
set_option maxRecDepth 20000 in
theorem dX5_put_30 : decode cX5_put 30 = .ok (.getfield 10, 3) := by decide +kernel
set_option maxRecDepth 20000 in
theorem dX5_put_33 : decode cX5_put 33 = .ok (.iload_n 1, 1) := by decide +kernel
set_option maxRecDepth 20000 in
theorem dX5_put_34 : decode cX5_put 34 = .ok (.iload_n 2, 1) := by decide +kernel
set_option maxRecDepth 20000 in
theorem dX5_put_35 : decode cX5_put 35 = .ok (.invokevirtual 156, 3) := by decide +kernel
set_option maxRecDepth 20000 in
theorem dX5_put_38 : decode cX5_put 38 = .ok (.istore 4, 2) := by decide +kernel
set_option maxRecDepth 20000 in
theorem dX5_put_40 : decode cX5_put 40 = .ok (.aload_n 0, 1) := by decide +kernel
set_option maxRecDepth 20000 in
theorem dX5_put_41 : decode cX5_put 41 = .ok (.invokevirtual 116, 3) := by decide +kernel
set_option maxRecDepth 20000 in
theorem dX5_put_44 : decode cX5_put 44 = .ok (.aload_n 0, 1) := by decide +kernel
set_option maxRecDepth 20000 in
theorem dX5_put_45 : decode cX5_put 45 = .ok (.getfield 10, 3) := by decide +kernel
set_option maxRecDepth 20000 in
theorem dX5_put_48 : decode cX5_put 48 = .ok (.iload_n 1, 1) := by decide +kernel
set_option maxRecDepth 20000 in
theorem dX5_put_49 : decode cX5_put 49 = .ok (.iload_n 2, 1) := by decide +kernel
set_option maxRecDepth 20000 in
theorem dX5_put_50 : decode cX5_put 50 = .ok (.iload_n 3, 1) := by decide +kernel
set_option maxRecDepth 20000 in
theorem dX5_put_51 : decode cX5_put 51 = .ok (.invokevirtual 159, 3) := by decide +kernel
set_option maxRecDepth 20000 in
theorem dX5_put_54 : decode cX5_put 54 = .ok (.iload 4, 2) := by decide +kernel
set_option maxRecDepth 20000 in
theorem dX5_put_56 : decode cX5_put 56 = .ok (.ireturn, 1) := by decide +kernel
set_option maxRecDepth 20000 in
theorem dX5_bound_0 : decode cX5_bound 0 = .ok (.iload_n 1, 1) := by decide +kernel
set_option maxRecDepth 20000 in
theorem dX5_bound_1 : decode cX5_bound 1 = .ok (.invokestatic 150, 3) := by decide +kernel
set_option maxRecDepth 20000 in
theorem dX5_bound_4 : decode cX5_bound 4 = .ok (.ifCond .eq 22, 3) := by decide +kernel
set_option maxRecDepth 20000 in
theorem dX5_bound_7 : decode cX5_bound 7 = .ok (.aload_n 0, 1) := by decide +kernel
set_option maxRecDepth 20000 in
theorem dX5_bound_8 : decode cX5_bound 8 = .ok (.getfield 10, 3) := by decide +kernel
set_option maxRecDepth 20000 in
theorem dX5_bound_11 : decode cX5_bound 11 = .ok (.iconst 2, 1) := by decide +kernel
set_option maxRecDepth 20000 in
theorem dX5_bound_12 : decode cX5_bound 12 = .ok (.iload_n 2, 1) := by decide +kernel
set_option maxRecDepth 20000 in
theorem dX5_bound_13 : decode cX5_bound 13 = .ok (.invokevirtual 127, 3) := by decide +kernel
set_option maxRecDepth 20000 in
theorem dX5_bound_16 : decode cX5_bound 16 = .ok (.ifCond .eq 10, 3) := by decide +kernel
set_option maxRecDepth 20000 in
theorem dX5_bound_19 : decode cX5_bound 19 = .ok (.iload_n 3, 1) := by decide +kernel
set_option maxRecDepth 20000 in
theorem dX5_bound_20 : decode cX5_bound 20 = .ok (.invokestatic 153, 3) := by decide +kernel
set_option maxRecDepth 20000 in
theorem dX5_bound_23 : decode cX5_bound 23 = .ok (.ifCond .ne 6, 3) := by decide +kernel
set_option maxRecDepth 20000 in
theorem dX5_bound_26 : decode cX5_bound 26 = .ok (.ldc 65, 2) := by decide +kernel
set_option maxRecDepth 20000 in
theorem dX5_bound_28 : decode cX5_bound 28 = .ok (.ireturn, 1) := by decide +kernel
set_option maxRecDepth 20000 in
theorem dX5_bound_29 : decode cX5_bound 29 = .ok (.iconst 0, 1) := by decide +kernel
set_option maxRecDepth 20000 in
theorem dX5_bound_30 : decode cX5_bound 30 = .ok (.istore 4, 2) := by decide +kernel
set_option maxRecDepth 20000 in
theorem dX5_bound_32 : decode cX5_bound 32 = .ok (.iload 4, 2) := by decide +kernel
set_option maxRecDepth 20000 in
theorem dX5_bound_34 : decode cX5_bound 34 = .ok (.aload_n 0, 1) := by decide +kernel
set_option maxRecDepth 20000 in
theorem dX5_bound_35 : decode cX5_bound 35 = .ok (.getfield 10, 3) := by decide +kernel
set_option maxRecDepth 20000 in
theorem dX5_bound_38 : decode cX5_bound 38 = .ok (.iconst 1, 1) := by decide +kernel
set_option maxRecDepth 20000 in
theorem dX5_bound_39 : decode cX5_bound 39 = .ok (.invokevirtual 97, 3) := by decide +kernel
set_option maxRecDepth 20000 in
theorem dX5_bound_42 : decode cX5_bound 42 = .ok (.if_icmp .ge 42, 3) := by decide +kernel
set_option maxRecDepth 20000 in
theorem dX5_bound_45 : decode cX5_bound 45 = .ok (.aload_n 0, 1) := by decide +kernel
set_option maxRecDepth 20000 in
theorem dX5_bound_46 : decode cX5_bound 46 = .ok (.getfield 10, 3) := by decide +kernel
set_option maxRecDepth 20000 in
theorem dX5_bound_49 : decode cX5_bound 49 = .ok (.iload_n 1, 1) := by decide +kernel
set_option maxRecDepth 20000 in
theorem dX5_bound_50 : decode cX5_bound 50 = .ok (.iload 4, 2) := by decide +kernel
set_option maxRecDepth 20000 in
theorem dX5_bound_52 : decode cX5_bound 52 = .ok (.invokevirtual 156, 3) := by decide +kernel
set_option maxRecDepth 20000 in
theorem dX5_bound_55 : decode cX5_bound 55 = .ok (.iload_n 3, 1) := by decide +kernel
set_option maxRecDepth 20000 in
theorem dX5_bound_56 : decode cX5_bound 56 = .ok (.aload_n 0, 1) := by decide +kernel
set_option maxRecDepth 20000 in
theorem dX5_bound_57 : decode cX5_bound 57 = .ok (.getfield 10, 3) := by decide +kernel
set_option maxRecDepth 20000 in
theorem dX5_bound_60 : decode cX5_bound 60 = .ok (.iconst 2, 1) := by decide +kernel
set_option maxRecDepth 20000 in
theorem dX5_bound_61 : decode cX5_bound 61 = .ok (.iload 4, 2) := by decide +kernel
set_option maxRecDepth 20000 in
theorem dX5_bound_63 : decode cX5_bound 63 = .ok (.iload_n 2, 1) := by decide +kernel
set_option maxRecDepth 20000 in
theorem dX5_bound_64 : decode cX5_bound 64 = .ok (.invokevirtual 162, 3) := by decide +kernel
set_option maxRecDepth 20000 in
theorem dX5_bound_67 : decode cX5_bound 67 = .ok (.imul, 1) := by decide +kernel
set_option maxRecDepth 20000 in
theorem dX5_bound_68 : decode cX5_bound 68 = .ok (.iadd, 1) := by decide +kernel
set_option maxRecDepth 20000 in
theorem dX5_bound_69 : decode cX5_bound 69 = .ok (.invokestatic 153, 3) := by decide +kernel
set_option maxRecDepth 20000 in
theorem dX5_bound_72 : decode cX5_bound 72 = .ok (.ifCond .ne 6, 3) := by decide +kernel
set_option maxRecDepth 20000 in
theorem dX5_bound_75 : decode cX5_bound 75 = .ok (.ldc 74, 2) := by decide +kernel
set_option maxRecDepth 20000 in
theorem dX5_bound_77 : decode cX5_bound 77 = .ok (.ireturn, 1) := by decide +kernel
set_option maxRecDepth 20000 in
theorem dX5_bound_78 : decode cX5_bound 78 = .ok (.iinc 4 1, 3) := by decide +kernel
set_option maxRecDepth 20000 in
theorem dX5_bound_81 : decode cX5_bound 81 = .ok (.goto (-49), 3) := by decide +kernel
set_option maxRecDepth 20000 in
theorem dX5_bound_84 : decode cX5_bound 84 = .ok (.aload_n 0, 1) := by decide +kernel
set_option maxRecDepth 20000 in
theorem dX5_bound_85 : decode cX5_bound 85 = .ok (.invokevirtual 116, 3) := by decide +kernel
set_option maxRecDepth 20000 in
theorem dX5_bound_88 : decode cX5_bound 88 = .ok (.iconst 0, 1) := by decide +kernel
set_option maxRecDepth 20000 in
theorem dX5_bound_89 : decode cX5_bound 89 = .ok (.istore 4, 2) := by decide +kernel
set_option maxRecDepth 20000 in
theorem dX5_bound_91 : decode cX5_bound 91 = .ok (.iload 4, 2) := by decide +kernel
set_option maxRecDepth 20000 in
theorem dX5_bound_93 : decode cX5_bound 93 = .ok (.aload_n 0, 1) := by decide +kernel
set_option maxRecDepth 20000 in
theorem dX5_bound_94 : decode cX5_bound 94 = .ok (.getfield 10, 3) := by decide +kernel
set_option maxRecDepth 20000 in
theorem dX5_bound_97 : decode cX5_bound 97 = .ok (.iconst 1, 1) := by decide +kernel
set_option maxRecDepth 20000 in
theorem dX5_bound_98 : decode cX5_bound 98 = .ok (.invokevirtual 97, 3) := by decide +kernel
set_option maxRecDepth 20000 in
theorem dX5_bound_101 : decode cX5_bound 101 = .ok (.if_icmp .ge 43, 3) := by decide +kernel
set_option maxRecDepth 20000 in
theorem dX5_bound_104 : decode cX5_bound 104 = .ok (.aload_n 0, 1) := by decide +kernel
set_option maxRecDepth 20000 in
theorem dX5_bound_105 : decode cX5_bound 105 = .ok (.getfield 10, 3) := by decide +kernel
set_option maxRecDepth 20000 in
theorem dX5_bound_108 : decode cX5_bound 108 = .ok (.iload_n 1, 1) := by decide +kernel
set_option maxRecDepth 20000 in
theorem dX5_bound_109 : decode cX5_bound 109 = .ok (.iload 4, 2) := by decide +kernel
set_option maxRecDepth 20000 in
theorem dX5_bound_111 : decode cX5_bound 111 = .ok (.aload_n 0, 1) := by decide +kernel
set_option maxRecDepth 20000 in
theorem dX5_bound_112 : decode cX5_bound 112 = .ok (.getfield 10, 3) := by decide +kernel
set_option maxRecDepth 20000 in
theorem dX5_bound_115 : decode cX5_bound 115 = .ok (.iload_n 1, 1) := by decide +kernel
set_option maxRecDepth 20000 in
theorem dX5_bound_116 : decode cX5_bound 116 = .ok (.iload 4, 2) := by decide +kernel
set_option maxRecDepth 20000 in
theorem dX5_bound_118 : decode cX5_bound 118 = .ok (.invokevirtual 156, 3) := by decide +kernel
set_option maxRecDepth 20000 in
theorem dX5_bound_121 : decode cX5_bound 121 = .ok (.iload_n 3, 1) := by decide +kernel
set_option maxRecDepth 20000 in
theorem dX5_bound_122 : decode cX5_bound 122 = .ok (.aload_n 0, 1) := by decide +kernel
set_option maxRecDepth 20000 in
theorem dX5_bound_123 : decode cX5_bound 123 = .ok (.getfield 10, 3) := by decide +kernel
set_option maxRecDepth 20000 in
theorem dX5_bound_126 : decode cX5_bound 126 = .ok (.iconst 2, 1) := by decide +kernel
set_option maxRecDepth 20000 in
theorem dX5_bound_127 : decode cX5_bound 127 = .ok (.iload 4, 2) := by decide +kernel
set_option maxRecDepth 20000 in
theorem dX5_bound_129 : decode cX5_bound 129 = .ok (.iload_n 2, 1) := by decide +kernel
set_option maxRecDepth 20000 in
theorem dX5_bound_130 : decode cX5_bound 130 = .ok (.invokevirtual 162, 3) := by decide +kernel
set_option maxRecDepth 20000 in
theorem dX5_bound_133 : decode cX5_bound 133 = .ok (.imul, 1) := by decide +kernel
set_option maxRecDepth 20000 in
theorem dX5_bound_134 : decode cX5_bound 134 = .ok (.iadd, 1) := by decide +kernel
set_option maxRecDepth 20000 in
theorem dX5_bound_135 : decode cX5_bound 135 = .ok (.invokevirtual 159, 3) := by decide +kernel
set_option maxRecDepth 20000 in
theorem dX5_bound_138 : decode cX5_bound 138 = .ok (.iinc 4 1, 3) := by decide +kernel
set_option maxRecDepth 20000 in
theorem dX5_bound_141 : decode cX5_bound 141 = .ok (.goto (-50), 3) := by decide +kernel
set_option maxRecDepth 20000 in
theorem dX5_bound_144 : decode cX5_bound 144 = .ok (.aload_n 0, 1) := by decide +kernel
set_option maxRecDepth 20000 in
theorem dX5_bound_145 : decode cX5_bound 145 = .ok (.getfield 10, 3) := by decide +kernel
set_option maxRecDepth 20000 in
theorem dX5_bound_148 : decode cX5_bound 148 = .ok (.iload_n 1, 1) := by decide +kernel
set_option maxRecDepth 20000 in
theorem dX5_bound_149 : decode cX5_bound 149 = .ok (.invokevirtual 166, 3) := by decide +kernel
set_option maxRecDepth 20000 in
theorem dX5_bound_152 : decode cX5_bound 152 = .ok (.ireturn, 1) := by decide +kernel
set_option maxRecDepth 20000 in
theorem dX5_drawn_0 : decode cX5_drawn 0 = .ok (.aload_n 0, 1) := by decide +kernel
set_option maxRecDepth 20000 in
theorem dX5_drawn_1 : decode cX5_drawn 1 = .ok (.getfield 10, 3) := by decide +kernel
set_option maxRecDepth 20000 in
theorem dX5_drawn_4 : decode cX5_drawn 4 = .ok (.invokevirtual 123, 3) := by decide +kernel
set_option maxRecDepth 20000 in
theorem dX5_drawn_7 : decode cX5_drawn 7 = .ok (.ifCond .ne 6, 3) := by decide +kernel
set_option maxRecDepth 20000 in
theorem dX5_drawn_10 : decode cX5_drawn 10 = .ok (.ldc 105, 2) := by decide +kernel
set_option maxRecDepth 20000 in
theorem dX5_drawn_12 : decode cX5_drawn 12 = .ok (.ireturn, 1) := by decide +kernel
set_option maxRecDepth 20000 in
theorem dX5_drawn_13 : decode cX5_drawn 13 = .ok (.iload_n 1, 1) := by decide +kernel
set_option maxRecDepth 20000 in
theorem dX5_drawn_14 : decode cX5_drawn 14 = .ok (.invokestatic 150, 3) := by decide +kernel
set_option maxRecDepth 20000 in
theorem dX5_drawn_17 : decode cX5_drawn 17 = .ok (.ifCond .eq 14, 3) := by decide +kernel
set_option maxRecDepth 20000 in
theorem dX5_drawn_20 : decode cX5_drawn 20 = .ok (.iload_n 2, 1) := by decide +kernel
set_option maxRecDepth 20000 in
theorem dX5_drawn_21 : decode cX5_drawn 21 = .ok (.iconst 1, 1) := by decide +kernel
set_option maxRecDepth 20000 in
theorem dX5_drawn_22 : decode cX5_drawn 22 = .ok (.if_icmp .lt 9, 3) := by decide +kernel
set_option maxRecDepth 20000 in
theorem dX5_drawn_25 : decode cX5_drawn 25 = .ok (.iload_n 2, 1) := by decide +kernel
set_option maxRecDepth 20000 in
theorem dX5_drawn_26 : decode cX5_drawn 26 = .ok (.ldc 169, 2) := by decide +kernel
set_option maxRecDepth 20000 in
theorem dX5_drawn_28 : decode cX5_drawn 28 = .ok (.if_icmp .le 6, 3) := by decide +kernel
set_option maxRecDepth 20000 in
theorem dX5_drawn_31 : decode cX5_drawn 31 = .ok (.ldc 65, 2) := by decide +kernel
set_option maxRecDepth 20000 in
theorem dX5_drawn_33 : decode cX5_drawn 33 = .ok (.ireturn, 1) := by decide +kernel
set_option maxRecDepth 20000 in
theorem dX5_drawn_34 : decode cX5_drawn 34 = .ok (.aload_n 0, 1) := by decide +kernel
set_option maxRecDepth 20000 in
theorem dX5_drawn_35 : decode cX5_drawn 35 = .ok (.invokevirtual 116, 3) := by decide +kernel
set_option maxRecDepth 20000 in
theorem dX5_drawn_38 : decode cX5_drawn 38 = .ok (.iload_n 2, 1) := by decide +kernel
set_option maxRecDepth 20000 in
theorem dX5_drawn_39 : decode cX5_drawn 39 = .ok (.i2l, 1) := by decide +kernel
set_option maxRecDepth 20000 in
theorem dX5_drawn_40 : decode cX5_drawn 40 = .ok (.lstore_n 3, 1) := by decide +kernel
set_option maxRecDepth 20000 in
theorem dX5_drawn_41 : decode cX5_drawn 41 = .ok (.iconst 0, 1) := by decide +kernel
set_option maxRecDepth 20000 in
theorem dX5_drawn_42 : decode cX5_drawn 42 = .ok (.istore 5, 2) := by decide +kernel
set_option maxRecDepth 20000 in
theorem dX5_drawn_44 : decode cX5_drawn 44 = .ok (.iload 5, 2) := by decide +kernel
set_option maxRecDepth 20000 in
theorem dX5_drawn_46 : decode cX5_drawn 46 = .ok (.aload_n 0, 1) := by decide +kernel
set_option maxRecDepth 20000 in
theorem dX5_drawn_47 : decode cX5_drawn 47 = .ok (.getfield 10, 3) := by decide +kernel
set_option maxRecDepth 20000 in
theorem dX5_drawn_50 : decode cX5_drawn 50 = .ok (.iconst 1, 1) := by decide +kernel
set_option maxRecDepth 20000 in
theorem dX5_drawn_51 : decode cX5_drawn 51 = .ok (.invokevirtual 97, 3) := by decide +kernel
set_option maxRecDepth 20000 in
theorem dX5_drawn_54 : decode cX5_drawn 54 = .ok (.if_icmp .ge 38, 3) := by decide +kernel
set_option maxRecDepth 20000 in
theorem dX5_drawn_57 : decode cX5_drawn 57 = .ok (.lload_n 3, 1) := by decide +kernel
set_option maxRecDepth 20000 in
theorem dX5_drawn_58 : decode cX5_drawn 58 = .ok (.ldc2_w 170, 3) := by decide +kernel
set_option maxRecDepth 20000 in
theorem dX5_drawn_61 : decode cX5_drawn 61 = .ok (.lmul, 1) := by decide +kernel
set_option maxRecDepth 20000 in
theorem dX5_drawn_62 : decode cX5_drawn 62 = .ok (.ldc2_w 172, 3) := by decide +kernel
set_option maxRecDepth 20000 in
theorem dX5_drawn_65 : decode cX5_drawn 65 = .ok (.lrem, 1) := by decide +kernel
set_option maxRecDepth 20000 in
theorem dX5_drawn_66 : decode cX5_drawn 66 = .ok (.lstore_n 3, 1) := by decide +kernel
set_option maxRecDepth 20000 in
theorem dX5_drawn_67 : decode cX5_drawn 67 = .ok (.aload_n 0, 1) := by decide +kernel
set_option maxRecDepth 20000 in
theorem dX5_drawn_68 : decode cX5_drawn 68 = .ok (.getfield 10, 3) := by decide +kernel
set_option maxRecDepth 20000 in
theorem dX5_drawn_71 : decode cX5_drawn 71 = .ok (.iload_n 1, 1) := by decide +kernel
set_option maxRecDepth 20000 in
theorem dX5_drawn_72 : decode cX5_drawn 72 = .ok (.iload 5, 2) := by decide +kernel
set_option maxRecDepth 20000 in
theorem dX5_drawn_74 : decode cX5_drawn 74 = .ok (.lload_n 3, 1) := by decide +kernel
set_option maxRecDepth 20000 in
theorem dX5_drawn_75 : decode cX5_drawn 75 = .ok (.ldc2_w 174, 3) := by decide +kernel
set_option maxRecDepth 20000 in
theorem dX5_drawn_78 : decode cX5_drawn 78 = .ok (.lrem, 1) := by decide +kernel
set_option maxRecDepth 20000 in
theorem dX5_drawn_79 : decode cX5_drawn 79 = .ok (.l2i, 1) := by decide +kernel
set_option maxRecDepth 20000 in
theorem dX5_drawn_80 : decode cX5_drawn 80 = .ok (.bipush 9, 2) := by decide +kernel
set_option maxRecDepth 20000 in
theorem dX5_drawn_82 : decode cX5_drawn 82 = .ok (.isub, 1) := by decide +kernel
set_option maxRecDepth 20000 in
theorem dX5_drawn_83 : decode cX5_drawn 83 = .ok (.invokevirtual 159, 3) := by decide +kernel
set_option maxRecDepth 20000 in
theorem dX5_drawn_86 : decode cX5_drawn 86 = .ok (.iinc 5 1, 3) := by decide +kernel
set_option maxRecDepth 20000 in
theorem dX5_drawn_89 : decode cX5_drawn 89 = .ok (.goto (-45), 3) := by decide +kernel
set_option maxRecDepth 20000 in
theorem dX5_drawn_92 : decode cX5_drawn 92 = .ok (.aload_n 0, 1) := by decide +kernel
set_option maxRecDepth 20000 in
theorem dX5_drawn_93 : decode cX5_drawn 93 = .ok (.getfield 10, 3) := by decide +kernel
set_option maxRecDepth 20000 in
theorem dX5_drawn_96 : decode cX5_drawn 96 = .ok (.iload_n 1, 1) := by decide +kernel
set_option maxRecDepth 20000 in
theorem dX5_drawn_97 : decode cX5_drawn 97 = .ok (.invokevirtual 166, 3) := by decide +kernel
set_option maxRecDepth 20000 in
theorem dX5_drawn_100 : decode cX5_drawn 100 = .ok (.ireturn, 1) := by decide +kernel
set_option maxRecDepth 20000 in
theorem dX5_cell_0 : decode cX5_cell 0 = .ok (.aload_n 0, 1) := by decide +kernel
set_option maxRecDepth 20000 in
theorem dX5_cell_1 : decode cX5_cell 1 = .ok (.iload_n 1, 1) := by decide +kernel
set_option maxRecDepth 20000 in
theorem dX5_cell_2 : decode cX5_cell 2 = .ok (.iload_n 2, 1) := by decide +kernel
set_option maxRecDepth 20000 in
theorem dX5_cell_3 : decode cX5_cell 3 = .ok (.invokevirtual 106, 3) := by decide +kernel
set_option maxRecDepth 20000 in
theorem dX5_cell_6 : decode cX5_cell 6 = .ok (.ifCond .ne 6, 3) := by decide +kernel
set_option maxRecDepth 20000 in
theorem dX5_cell_9 : decode cX5_cell 9 = .ok (.ldc 65, 2) := by decide +kernel
set_option maxRecDepth 20000 in
theorem dX5_cell_11 : decode cX5_cell 11 = .ok (.ireturn, 1) := by decide +kernel
set_option maxRecDepth 20000 in
theorem dX5_cell_12 : decode cX5_cell 12 = .ok (.iload_n 3, 1) := by decide +kernel
set_option maxRecDepth 20000 in
theorem dX5_cell_13 : decode cX5_cell 13 = .ok (.ifCond .ne 13, 3) := by decide +kernel
set_option maxRecDepth 20000 in
theorem dX5_cell_16 : decode cX5_cell 16 = .ok (.aload_n 0, 1) := by decide +kernel
set_option maxRecDepth 20000 in
theorem dX5_cell_17 : decode cX5_cell 17 = .ok (.getfield 10, 3) := by decide +kernel
set_option maxRecDepth 20000 in
theorem dX5_cell_20 : decode cX5_cell 20 = .ok (.iload_n 1, 1) := by decide +kernel
set_option maxRecDepth 20000 in
theorem dX5_cell_21 : decode cX5_cell 21 = .ok (.iload_n 2, 1) := by decide +kernel
set_option maxRecDepth 20000 in
theorem dX5_cell_22 : decode cX5_cell 22 = .ok (.invokevirtual 112, 3) := by decide +kernel
set_option maxRecDepth 20000 in
theorem dX5_cell_25 : decode cX5_cell 25 = .ok (.ireturn, 1) := by decide +kernel
set_option maxRecDepth 20000 in
theorem dX5_cell_26 : decode cX5_cell 26 = .ok (.iload_n 3, 1) := by decide +kernel
set_option maxRecDepth 20000 in
theorem dX5_cell_27 : decode cX5_cell 27 = .ok (.iconst 1, 1) := by decide +kernel
set_option maxRecDepth 20000 in
theorem dX5_cell_28 : decode cX5_cell 28 = .ok (.if_icmp .ne 28, 3) := by decide +kernel
set_option maxRecDepth 20000 in
theorem dX5_cell_31 : decode cX5_cell 31 = .ok (.iload_n 1, 1) := by decide +kernel
set_option maxRecDepth 20000 in
theorem dX5_cell_32 : decode cX5_cell 32 = .ok (.iconst 1, 1) := by decide +kernel
set_option maxRecDepth 20000 in
theorem dX5_cell_33 : decode cX5_cell 33 = .ok (.if_icmp .ne 14, 3) := by decide +kernel
set_option maxRecDepth 20000 in
theorem dX5_cell_36 : decode cX5_cell 36 = .ok (.aload_n 0, 1) := by decide +kernel
set_option maxRecDepth 20000 in
theorem dX5_cell_37 : decode cX5_cell 37 = .ok (.getfield 10, 3) := by decide +kernel
set_option maxRecDepth 20000 in
theorem dX5_cell_40 : decode cX5_cell 40 = .ok (.iload_n 2, 1) := by decide +kernel
set_option maxRecDepth 20000 in
theorem dX5_cell_41 : decode cX5_cell 41 = .ok (.invokevirtual 176, 3) := by decide +kernel
set_option maxRecDepth 20000 in
theorem dX5_cell_44 : decode cX5_cell 44 = .ok (.goto 11, 3) := by decide +kernel
set_option maxRecDepth 20000 in
theorem dX5_cell_47 : decode cX5_cell 47 = .ok (.aload_n 0, 1) := by decide +kernel
set_option maxRecDepth 20000 in
theorem dX5_cell_48 : decode cX5_cell 48 = .ok (.getfield 10, 3) := by decide +kernel
set_option maxRecDepth 20000 in
theorem dX5_cell_51 : decode cX5_cell 51 = .ok (.iload_n 2, 1) := by decide +kernel
set_option maxRecDepth 20000 in
theorem dX5_cell_52 : decode cX5_cell 52 = .ok (.invokevirtual 179, 3) := by decide +kernel
set_option maxRecDepth 20000 in
theorem dX5_cell_55 : decode cX5_cell 55 = .ok (.ireturn, 1) := by decide +kernel
set_option maxRecDepth 20000 in
theorem dX5_cell_56 : decode cX5_cell 56 = .ok (.iload_n 3, 1) := by decide +kernel
set_option maxRecDepth 20000 in
theorem dX5_cell_57 : decode cX5_cell 57 = .ok (.iconst 2, 1) := by decide +kernel
set_option maxRecDepth 20000 in
theorem dX5_cell_58 : decode cX5_cell 58 = .ok (.if_icmp .ne 36, 3) := by decide +kernel
set_option maxRecDepth 20000 in
theorem dX5_cell_61 : decode cX5_cell 61 = .ok (.iload_n 1, 1) := by decide +kernel
set_option maxRecDepth 20000 in
theorem dX5_cell_62 : decode cX5_cell 62 = .ok (.iconst 1, 1) := by decide +kernel
set_option maxRecDepth 20000 in
theorem dX5_cell_63 : decode cX5_cell 63 = .ok (.if_icmp .ne 14, 3) := by decide +kernel
set_option maxRecDepth 20000 in
theorem dX5_cell_66 : decode cX5_cell 66 = .ok (.aload_n 0, 1) := by decide +kernel
set_option maxRecDepth 20000 in
theorem dX5_cell_67 : decode cX5_cell 67 = .ok (.getfield 10, 3) := by decide +kernel
set_option maxRecDepth 20000 in
theorem dX5_cell_70 : decode cX5_cell 70 = .ok (.iload_n 2, 1) := by decide +kernel
set_option maxRecDepth 20000 in
theorem dX5_cell_71 : decode cX5_cell 71 = .ok (.invokevirtual 182, 3) := by decide +kernel
set_option maxRecDepth 20000 in
theorem dX5_cell_74 : decode cX5_cell 74 = .ok (.goto 19, 3) := by decide +kernel
set_option maxRecDepth 20000 in
theorem dX5_cell_77 : decode cX5_cell 77 = .ok (.aload_n 0, 1) := by decide +kernel
set_option maxRecDepth 20000 in
theorem dX5_cell_78 : decode cX5_cell 78 = .ok (.getfield 10, 3) := by decide +kernel
set_option maxRecDepth 20000 in
theorem dX5_cell_81 : decode cX5_cell 81 = .ok (.aload_n 0, 1) := by decide +kernel
set_option maxRecDepth 20000 in
theorem dX5_cell_82 : decode cX5_cell 82 = .ok (.getfield 10, 3) := by decide +kernel
set_option maxRecDepth 20000 in
theorem dX5_cell_85 : decode cX5_cell 85 = .ok (.iload_n 2, 1) := by decide +kernel
set_option maxRecDepth 20000 in
theorem dX5_cell_86 : decode cX5_cell 86 = .ok (.iconst 0, 1) := by decide +kernel
set_option maxRecDepth 20000 in
theorem dX5_cell_87 : decode cX5_cell 87 = .ok (.invokevirtual 185, 3) := by decide +kernel
set_option maxRecDepth 20000 in
theorem dX5_cell_90 : decode cX5_cell 90 = .ok (.invokevirtual 188, 3) := by decide +kernel
set_option maxRecDepth 20000 in
theorem dX5_cell_93 : decode cX5_cell 93 = .ok (.ireturn, 1) := by decide +kernel
set_option maxRecDepth 20000 in
theorem dX5_cell_94 : decode cX5_cell 94 = .ok (.iload_n 1, 1) := by decide +kernel
set_option maxRecDepth 20000 in
theorem dX5_cell_95 : decode cX5_cell 95 = .ok (.iconst 1, 1) := by decide +kernel
set_option maxRecDepth 20000 in
theorem dX5_cell_96 : decode cX5_cell 96 = .ok (.if_icmp .eq 15, 3) := by decide +kernel
set_option maxRecDepth 20000 in
theorem dX5_cell_99 : decode cX5_cell 99 = .ok (.iload_n 3, 1) := by decide +kernel
set_option maxRecDepth 20000 in
theorem dX5_cell_100 : decode cX5_cell 100 = .ok (.bipush 10, 2) := by decide +kernel
set_option maxRecDepth 20000 in
theorem dX5_cell_102 : decode cX5_cell 102 = .ok (.if_icmp .lt 9, 3) := by decide +kernel
set_option maxRecDepth 20000 in
theorem dX5_cell_105 : decode cX5_cell 105 = .ok (.iload_n 3, 1) := by decide +kernel
set_option maxRecDepth 20000 in
theorem dX5_cell_106 : decode cX5_cell 106 = .ok (.bipush 14, 2) := by decide +kernel
set_option maxRecDepth 20000 in
theorem dX5_cell_108 : decode cX5_cell 108 = .ok (.if_icmp .lt 6, 3) := by decide +kernel
set_option maxRecDepth 20000 in
theorem dX5_cell_111 : decode cX5_cell 111 = .ok (.ldc 65, 2) := by decide +kernel
set_option maxRecDepth 20000 in
theorem dX5_cell_113 : decode cX5_cell 113 = .ok (.ireturn, 1) := by decide +kernel
set_option maxRecDepth 20000 in
theorem dX5_cell_114 : decode cX5_cell 114 = .ok (.iload_n 3, 1) := by decide +kernel
set_option maxRecDepth 20000 in
theorem dX5_cell_115 : decode cX5_cell 115 = .ok (.bipush 10, 2) := by decide +kernel
set_option maxRecDepth 20000 in
theorem dX5_cell_117 : decode cX5_cell 117 = .ok (.isub, 1) := by decide +kernel
set_option maxRecDepth 20000 in
theorem dX5_cell_118 : decode cX5_cell 118 = .ok (.istore 4, 2) := by decide +kernel
set_option maxRecDepth 20000 in
theorem dX5_cell_120 : decode cX5_cell 120 = .ok (.iload 4, 2) := by decide +kernel
set_option maxRecDepth 20000 in
theorem dX5_cell_122 : decode cX5_cell 122 = .ok (.aload_n 0, 1) := by decide +kernel
set_option maxRecDepth 20000 in
theorem dX5_cell_123 : decode cX5_cell 123 = .ok (.getfield 10, 3) := by decide +kernel
set_option maxRecDepth 20000 in
theorem dX5_cell_126 : decode cX5_cell 126 = .ok (.iload_n 2, 1) := by decide +kernel
set_option maxRecDepth 20000 in
theorem dX5_cell_127 : decode cX5_cell 127 = .ok (.invokevirtual 179, 3) := by decide +kernel
set_option maxRecDepth 20000 in
theorem dX5_cell_130 : decode cX5_cell 130 = .ok (.if_icmp .ge 16, 3) := by decide +kernel
set_option maxRecDepth 20000 in
theorem dX5_cell_133 : decode cX5_cell 133 = .ok (.aload_n 0, 1) := by decide +kernel
set_option maxRecDepth 20000 in
theorem dX5_cell_134 : decode cX5_cell 134 = .ok (.getfield 10, 3) := by decide +kernel
set_option maxRecDepth 20000 in
theorem dX5_cell_137 : decode cX5_cell 137 = .ok (.iload_n 2, 1) := by decide +kernel
set_option maxRecDepth 20000 in
theorem dX5_cell_138 : decode cX5_cell 138 = .ok (.iload 4, 2) := by decide +kernel
set_option maxRecDepth 20000 in
theorem dX5_cell_140 : decode cX5_cell 140 = .ok (.invokevirtual 185, 3) := by decide +kernel
set_option maxRecDepth 20000 in
theorem dX5_cell_143 : decode cX5_cell 143 = .ok (.goto 5, 3) := by decide +kernel
set_option maxRecDepth 20000 in
theorem dX5_cell_146 : decode cX5_cell 146 = .ok (.ldc 191, 2) := by decide +kernel
set_option maxRecDepth 20000 in
theorem dX5_cell_148 : decode cX5_cell 148 = .ok (.ireturn, 1) := by decide +kernel
set_option maxRecDepth 20000 in
theorem dX5_as_0 : decode cX5_as 0 = .ok (.aload_n 0, 1) := by decide +kernel
set_option maxRecDepth 20000 in
theorem dX5_as_1 : decode cX5_as 1 = .ok (.getfield 10, 3) := by decide +kernel
set_option maxRecDepth 20000 in
theorem dX5_as_4 : decode cX5_as 4 = .ok (.iload_n 1, 1) := by decide +kernel
set_option maxRecDepth 20000 in
theorem dX5_as_5 : decode cX5_as 5 = .ok (.iload_n 2, 1) := by decide +kernel
set_option maxRecDepth 20000 in
theorem dX5_as_6 : decode cX5_as 6 = .ok (.invokevirtual 127, 3) := by decide +kernel
set_option maxRecDepth 20000 in
theorem dX5_as_9 : decode cX5_as 9 = .ok (.ifCond .eq 12, 3) := by decide +kernel
set_option maxRecDepth 20000 in
theorem dX5_as_12 : decode cX5_as 12 = .ok (.iload_n 3, 1) := by decide +kernel
set_option maxRecDepth 20000 in
theorem dX5_as_13 : decode cX5_as 13 = .ok (.ifCond .lt 8, 3) := by decide +kernel
set_option maxRecDepth 20000 in
theorem dX5_as_16 : decode cX5_as 16 = .ok (.iload_n 3, 1) := by decide +kernel
set_option maxRecDepth 20000 in
theorem dX5_as_17 : decode cX5_as 17 = .ok (.iconst 5, 1) := by decide +kernel
set_option maxRecDepth 20000 in
theorem dX5_as_18 : decode cX5_as 18 = .ok (.if_icmp .le 6, 3) := by decide +kernel
set_option maxRecDepth 20000 in
theorem dX5_as_21 : decode cX5_as 21 = .ok (.ldc 65, 2) := by decide +kernel
set_option maxRecDepth 20000 in
theorem dX5_as_23 : decode cX5_as 23 = .ok (.ireturn, 1) := by decide +kernel
set_option maxRecDepth 20000 in
theorem dX5_as_24 : decode cX5_as 24 = .ok (.aload_n 0, 1) := by decide +kernel
set_option maxRecDepth 20000 in
theorem dX5_as_25 : decode cX5_as 25 = .ok (.getfield 10, 3) := by decide +kernel
set_option maxRecDepth 20000 in
theorem dX5_as_28 : decode cX5_as 28 = .ok (.iload_n 1, 1) := by decide +kernel
set_option maxRecDepth 20000 in
theorem dX5_as_29 : decode cX5_as 29 = .ok (.iload_n 2, 1) := by decide +kernel
set_option maxRecDepth 20000 in
theorem dX5_as_30 : decode cX5_as 30 = .ok (.iload_n 3, 1) := by decide +kernel
set_option maxRecDepth 20000 in
theorem dX5_as_31 : decode cX5_as 31 = .ok (.invokevirtual 192, 3) := by decide +kernel
set_option maxRecDepth 20000 in
theorem dX5_as_34 : decode cX5_as 34 = .ok (.ifCond .eq 7, 3) := by decide +kernel
set_option maxRecDepth 20000 in
theorem dX5_as_37 : decode cX5_as 37 = .ok (.iload_n 2, 1) := by decide +kernel
set_option maxRecDepth 20000 in
theorem dX5_as_38 : decode cX5_as 38 = .ok (.goto 5, 3) := by decide +kernel
set_option maxRecDepth 20000 in
theorem dX5_as_41 : decode cX5_as 41 = .ok (.ldc 191, 2) := by decide +kernel
set_option maxRecDepth 20000 in
theorem dX5_as_43 : decode cX5_as 43 = .ok (.ireturn, 1) := by decide +kernel
set_option maxRecDepth 20000 in
theorem dX5_table_0 : decode cX5_table 0 = .ok (.iload_n 1, 1) := by decide +kernel
set_option maxRecDepth 20000 in
theorem dX5_table_1 : decode cX5_table 1 = .ok (.iconst 1, 1) := by decide +kernel
set_option maxRecDepth 20000 in
theorem dX5_table_2 : decode cX5_table 2 = .ok (.if_icmp .lt 34, 3) := by decide +kernel
set_option maxRecDepth 20000 in
theorem dX5_table_5 : decode cX5_table 5 = .ok (.iload_n 1, 1) := by decide +kernel
set_option maxRecDepth 20000 in
theorem dX5_table_6 : decode cX5_table 6 = .ok (.iconst 2, 1) := by decide +kernel
set_option maxRecDepth 20000 in
theorem dX5_table_7 : decode cX5_table 7 = .ok (.if_icmp .gt 29, 3) := by decide +kernel
set_option maxRecDepth 20000 in
theorem dX5_table_10 : decode cX5_table 10 = .ok (.aload_n 0, 1) := by decide +kernel
set_option maxRecDepth 20000 in
theorem dX5_table_11 : decode cX5_table 11 = .ok (.getfield 10, 3) := by decide +kernel
set_option maxRecDepth 20000 in
theorem dX5_table_14 : decode cX5_table 14 = .ok (.iload_n 1, 1) := by decide +kernel
set_option maxRecDepth 20000 in
theorem dX5_table_15 : decode cX5_table 15 = .ok (.iconst 1, 1) := by decide +kernel
set_option maxRecDepth 20000 in
theorem dX5_table_16 : decode cX5_table 16 = .ok (.isub, 1) := by decide +kernel
set_option maxRecDepth 20000 in
theorem dX5_table_17 : decode cX5_table 17 = .ok (.iload_n 2, 1) := by decide +kernel
set_option maxRecDepth 20000 in
theorem dX5_table_18 : decode cX5_table 18 = .ok (.invokevirtual 127, 3) := by decide +kernel
set_option maxRecDepth 20000 in
theorem dX5_table_21 : decode cX5_table 21 = .ok (.ifCond .eq 15, 3) := by decide +kernel
set_option maxRecDepth 20000 in
theorem dX5_table_24 : decode cX5_table 24 = .ok (.aload_n 0, 1) := by decide +kernel
set_option maxRecDepth 20000 in
theorem dX5_table_25 : decode cX5_table 25 = .ok (.getfield 10, 3) := by decide +kernel
set_option maxRecDepth 20000 in
theorem dX5_table_28 : decode cX5_table 28 = .ok (.iload_n 1, 1) := by decide +kernel
set_option maxRecDepth 20000 in
theorem dX5_table_29 : decode cX5_table 29 = .ok (.iload_n 3, 1) := by decide +kernel
set_option maxRecDepth 20000 in
theorem dX5_table_30 : decode cX5_table 30 = .ok (.invokevirtual 127, 3) := by decide +kernel
set_option maxRecDepth 20000 in
theorem dX5_table_33 : decode cX5_table 33 = .ok (.ifCond .ne 6, 3) := by decide +kernel
set_option maxRecDepth 20000 in
theorem dX5_table_36 : decode cX5_table 36 = .ok (.ldc 65, 2) := by decide +kernel
set_option maxRecDepth 20000 in
theorem dX5_table_38 : decode cX5_table 38 = .ok (.ireturn, 1) := by decide +kernel
set_option maxRecDepth 20000 in
theorem dX5_table_39 : decode cX5_table 39 = .ok (.aload_n 0, 1) := by decide +kernel
set_option maxRecDepth 20000 in
theorem dX5_table_40 : decode cX5_table 40 = .ok (.getfield 10, 3) := by decide +kernel
set_option maxRecDepth 20000 in
theorem dX5_table_43 : decode cX5_table 43 = .ok (.iload_n 1, 1) := by decide +kernel
set_option maxRecDepth 20000 in
theorem dX5_table_44 : decode cX5_table 44 = .ok (.iload_n 2, 1) := by decide +kernel
set_option maxRecDepth 20000 in
theorem dX5_table_45 : decode cX5_table 45 = .ok (.iload_n 3, 1) := by decide +kernel
set_option maxRecDepth 20000 in
theorem dX5_table_46 : decode cX5_table 46 = .ok (.invokevirtual 162, 3) := by decide +kernel
set_option maxRecDepth 20000 in
theorem dX5_table_49 : decode cX5_table 49 = .ok (.ireturn, 1) := by decide +kernel
set_option maxRecDepth 20000 in
theorem dX5_near_0 : decode cX5_near 0 = .ok (.iload_n 1, 1) := by decide +kernel
set_option maxRecDepth 20000 in
theorem dX5_near_1 : decode cX5_near 1 = .ok (.ifCond .lt 8, 3) := by decide +kernel
set_option maxRecDepth 20000 in
theorem dX5_near_4 : decode cX5_near 4 = .ok (.iload_n 1, 1) := by decide +kernel
set_option maxRecDepth 20000 in
theorem dX5_near_5 : decode cX5_near 5 = .ok (.iconst 2, 1) := by decide +kernel
set_option maxRecDepth 20000 in
theorem dX5_near_6 : decode cX5_near 6 = .ok (.if_icmp .le 6, 3) := by decide +kernel
set_option maxRecDepth 20000 in
theorem dX5_near_9 : decode cX5_near 9 = .ok (.ldc 65, 2) := by decide +kernel
set_option maxRecDepth 20000 in
theorem dX5_near_11 : decode cX5_near 11 = .ok (.ireturn, 1) := by decide +kernel
set_option maxRecDepth 20000 in
theorem dX5_near_12 : decode cX5_near 12 = .ok (.iload_n 1, 1) := by decide +kernel
set_option maxRecDepth 20000 in
theorem dX5_near_13 : decode cX5_near 13 = .ok (.ifCond .ne 7, 3) := by decide +kernel
set_option maxRecDepth 20000 in
theorem dX5_near_16 : decode cX5_near 16 = .ok (.iconst 0, 1) := by decide +kernel
set_option maxRecDepth 20000 in
theorem dX5_near_17 : decode cX5_near 17 = .ok (.goto 4, 3) := by decide +kernel
set_option maxRecDepth 20000 in
theorem dX5_near_20 : decode cX5_near 20 = .ok (.iconst 1, 1) := by decide +kernel
set_option maxRecDepth 20000 in
theorem dX5_near_21 : decode cX5_near 21 = .ok (.istore 4, 2) := by decide +kernel
set_option maxRecDepth 20000 in
theorem dX5_near_23 : decode cX5_near 23 = .ok (.aload_n 0, 1) := by decide +kernel
set_option maxRecDepth 20000 in
theorem dX5_near_24 : decode cX5_near 24 = .ok (.getfield 10, 3) := by decide +kernel
set_option maxRecDepth 20000 in
theorem dX5_near_27 : decode cX5_near 27 = .ok (.iload 4, 2) := by decide +kernel
set_option maxRecDepth 20000 in
theorem dX5_near_29 : decode cX5_near 29 = .ok (.iload_n 2, 1) := by decide +kernel
set_option maxRecDepth 20000 in
theorem dX5_near_30 : decode cX5_near 30 = .ok (.invokevirtual 127, 3) := by decide +kernel
set_option maxRecDepth 20000 in
theorem dX5_near_33 : decode cX5_near 33 = .ok (.ifCond .eq 16, 3) := by decide +kernel
set_option maxRecDepth 20000 in
theorem dX5_near_36 : decode cX5_near 36 = .ok (.aload_n 0, 1) := by decide +kernel
set_option maxRecDepth 20000 in
theorem dX5_near_37 : decode cX5_near 37 = .ok (.getfield 10, 3) := by decide +kernel
set_option maxRecDepth 20000 in
theorem dX5_near_40 : decode cX5_near 40 = .ok (.iload 4, 2) := by decide +kernel
set_option maxRecDepth 20000 in
theorem dX5_near_42 : decode cX5_near 42 = .ok (.iload_n 3, 1) := by decide +kernel
set_option maxRecDepth 20000 in
theorem dX5_near_43 : decode cX5_near 43 = .ok (.invokevirtual 127, 3) := by decide +kernel
set_option maxRecDepth 20000 in
theorem dX5_near_46 : decode cX5_near 46 = .ok (.ifCond .ne 6, 3) := by decide +kernel
set_option maxRecDepth 20000 in
theorem dX5_near_49 : decode cX5_near 49 = .ok (.ldc 65, 2) := by decide +kernel
set_option maxRecDepth 20000 in
theorem dX5_near_51 : decode cX5_near 51 = .ok (.ireturn, 1) := by decide +kernel
set_option maxRecDepth 20000 in
theorem dX5_near_52 : decode cX5_near 52 = .ok (.aload_n 0, 1) := by decide +kernel
set_option maxRecDepth 20000 in
theorem dX5_near_53 : decode cX5_near 53 = .ok (.getfield 10, 3) := by decide +kernel
set_option maxRecDepth 20000 in
theorem dX5_near_56 : decode cX5_near 56 = .ok (.iload_n 1, 1) := by decide +kernel
set_option maxRecDepth 20000 in
theorem dX5_near_57 : decode cX5_near 57 = .ok (.iload_n 2, 1) := by decide +kernel
set_option maxRecDepth 20000 in
theorem dX5_near_58 : decode cX5_near 58 = .ok (.iload_n 3, 1) := by decide +kernel
set_option maxRecDepth 20000 in
theorem dX5_near_59 : decode cX5_near 59 = .ok (.invokevirtual 196, 3) := by decide +kernel
set_option maxRecDepth 20000 in
theorem dX5_near_62 : decode cX5_near 62 = .ok (.ireturn, 1) := by decide +kernel
set_option maxRecDepth 20000 in
theorem dX5_rank_0 : decode cX5_rank 0 = .ok (.aload_n 0, 1) := by decide +kernel
set_option maxRecDepth 20000 in
theorem dX5_rank_1 : decode cX5_rank 1 = .ok (.getfield 10, 3) := by decide +kernel
set_option maxRecDepth 20000 in
theorem dX5_rank_4 : decode cX5_rank 4 = .ok (.invokevirtual 123, 3) := by decide +kernel
set_option maxRecDepth 20000 in
theorem dX5_rank_7 : decode cX5_rank 7 = .ok (.ifCond .ne 6, 3) := by decide +kernel
set_option maxRecDepth 20000 in
theorem dX5_rank_10 : decode cX5_rank 10 = .ok (.ldc 105, 2) := by decide +kernel
set_option maxRecDepth 20000 in
theorem dX5_rank_12 : decode cX5_rank 12 = .ok (.ireturn, 1) := by decide +kernel
set_option maxRecDepth 20000 in
theorem dX5_rank_13 : decode cX5_rank 13 = .ok (.iload_n 1, 1) := by decide +kernel
set_option maxRecDepth 20000 in
theorem dX5_rank_14 : decode cX5_rank 14 = .ok (.iconst 1, 1) := by decide +kernel
set_option maxRecDepth 20000 in
theorem dX5_rank_15 : decode cX5_rank 15 = .ok (.if_icmp .lt 15, 3) := by decide +kernel
set_option maxRecDepth 20000 in
theorem dX5_rank_18 : decode cX5_rank 18 = .ok (.iload_n 1, 1) := by decide +kernel
set_option maxRecDepth 20000 in
theorem dX5_rank_19 : decode cX5_rank 19 = .ok (.iconst 2, 1) := by decide +kernel
set_option maxRecDepth 20000 in
theorem dX5_rank_20 : decode cX5_rank 20 = .ok (.if_icmp .gt 10, 3) := by decide +kernel
set_option maxRecDepth 20000 in
theorem dX5_rank_23 : decode cX5_rank 23 = .ok (.iload_n 2, 1) := by decide +kernel
set_option maxRecDepth 20000 in
theorem dX5_rank_24 : decode cX5_rank 24 = .ok (.invokestatic 199, 3) := by decide +kernel
set_option maxRecDepth 20000 in
theorem dX5_rank_27 : decode cX5_rank 27 = .ok (.ifCond .ne 6, 3) := by decide +kernel
set_option maxRecDepth 20000 in
theorem dX5_rank_30 : decode cX5_rank 30 = .ok (.ldc 65, 2) := by decide +kernel
set_option maxRecDepth 20000 in
theorem dX5_rank_32 : decode cX5_rank 32 = .ok (.ireturn, 1) := by decide +kernel
set_option maxRecDepth 20000 in
theorem dX5_rank_33 : decode cX5_rank 33 = .ok (.aload_n 0, 1) := by decide +kernel
set_option maxRecDepth 20000 in
theorem dX5_rank_34 : decode cX5_rank 34 = .ok (.iload_n 1, 1) := by decide +kernel
set_option maxRecDepth 20000 in
theorem dX5_rank_35 : decode cX5_rank 35 = .ok (.iload_n 2, 1) := by decide +kernel
set_option maxRecDepth 20000 in
theorem dX5_rank_36 : decode cX5_rank 36 = .ok (.invokevirtual 202, 3) := by decide +kernel
set_option maxRecDepth 20000 in
theorem dX5_rank_39 : decode cX5_rank 39 = .ok (.ireturn, 1) := by decide +kernel
set_option maxRecDepth 20000 in
theorem dX5_holes_0 : decode cX5_holes 0 = .ok (.aload_n 0, 1) := by decide +kernel
set_option maxRecDepth 20000 in
theorem dX5_holes_1 : decode cX5_holes 1 = .ok (.getfield 10, 3) := by decide +kernel
set_option maxRecDepth 20000 in
theorem dX5_holes_4 : decode cX5_holes 4 = .ok (.invokevirtual 123, 3) := by decide +kernel
set_option maxRecDepth 20000 in
theorem dX5_holes_7 : decode cX5_holes 7 = .ok (.ifCond .ne 6, 3) := by decide +kernel
set_option maxRecDepth 20000 in
theorem dX5_holes_10 : decode cX5_holes 10 = .ok (.ldc 105, 2) := by decide +kernel
set_option maxRecDepth 20000 in
theorem dX5_holes_12 : decode cX5_holes 12 = .ok (.ireturn, 1) := by decide +kernel
set_option maxRecDepth 20000 in
theorem dX5_holes_13 : decode cX5_holes 13 = .ok (.iload_n 1, 1) := by decide +kernel
set_option maxRecDepth 20000 in
theorem dX5_holes_14 : decode cX5_holes 14 = .ok (.ifCond .lt 15, 3) := by decide +kernel
set_option maxRecDepth 20000 in
theorem dX5_holes_17 : decode cX5_holes 17 = .ok (.iload_n 1, 1) := by decide +kernel
set_option maxRecDepth 20000 in
theorem dX5_holes_18 : decode cX5_holes 18 = .ok (.iconst 2, 1) := by decide +kernel
set_option maxRecDepth 20000 in
theorem dX5_holes_19 : decode cX5_holes 19 = .ok (.if_icmp .gt 10, 3) := by decide +kernel
set_option maxRecDepth 20000 in
theorem dX5_holes_22 : decode cX5_holes 22 = .ok (.iload_n 2, 1) := by decide +kernel
set_option maxRecDepth 20000 in
theorem dX5_holes_23 : decode cX5_holes 23 = .ok (.invokestatic 199, 3) := by decide +kernel
set_option maxRecDepth 20000 in
theorem dX5_holes_26 : decode cX5_holes 26 = .ok (.ifCond .ne 6, 3) := by decide +kernel
set_option maxRecDepth 20000 in
theorem dX5_holes_29 : decode cX5_holes 29 = .ok (.ldc 65, 2) := by decide +kernel
set_option maxRecDepth 20000 in
theorem dX5_holes_31 : decode cX5_holes 31 = .ok (.ireturn, 1) := by decide +kernel
set_option maxRecDepth 20000 in
theorem dX5_holes_32 : decode cX5_holes 32 = .ok (.iload_n 1, 1) := by decide +kernel
set_option maxRecDepth 20000 in
theorem dX5_holes_33 : decode cX5_holes 33 = .ok (.ifCond .ne 7, 3) := by decide +kernel
set_option maxRecDepth 20000 in
theorem dX5_holes_36 : decode cX5_holes 36 = .ok (.iconst 0, 1) := by decide +kernel
set_option maxRecDepth 20000 in
theorem dX5_holes_37 : decode cX5_holes 37 = .ok (.goto 9, 3) := by decide +kernel
set_option maxRecDepth 20000 in
theorem dX5_holes_40 : decode cX5_holes 40 = .ok (.aload_n 0, 1) := by decide +kernel
set_option maxRecDepth 20000 in
theorem dX5_holes_41 : decode cX5_holes 41 = .ok (.iload_n 1, 1) := by decide +kernel
set_option maxRecDepth 20000 in
theorem dX5_holes_42 : decode cX5_holes 42 = .ok (.iload_n 2, 1) := by decide +kernel
set_option maxRecDepth 20000 in
theorem dX5_holes_43 : decode cX5_holes 43 = .ok (.invokevirtual 202, 3) := by decide +kernel
set_option maxRecDepth 20000 in
theorem dX5_holes_46 : decode cX5_holes 46 = .ok (.istore_n 3, 1) := by decide +kernel
set_option maxRecDepth 20000 in
theorem dX5_holes_47 : decode cX5_holes 47 = .ok (.iload_n 1, 1) := by decide +kernel
set_option maxRecDepth 20000 in
theorem dX5_holes_48 : decode cX5_holes 48 = .ok (.iconst 2, 1) := by decide +kernel
set_option maxRecDepth 20000 in
theorem dX5_holes_49 : decode cX5_holes 49 = .ok (.if_icmp .ne 7, 3) := by decide +kernel
set_option maxRecDepth 20000 in
theorem dX5_holes_52 : decode cX5_holes 52 = .ok (.iconst 0, 1) := by decide +kernel
set_option maxRecDepth 20000 in
theorem dX5_holes_53 : decode cX5_holes 53 = .ok (.goto 11, 3) := by decide +kernel
set_option maxRecDepth 20000 in
theorem dX5_holes_56 : decode cX5_holes 56 = .ok (.aload_n 0, 1) := by decide +kernel
set_option maxRecDepth 20000 in
theorem dX5_holes_57 : decode cX5_holes 57 = .ok (.iload_n 1, 1) := by decide +kernel
set_option maxRecDepth 20000 in
theorem dX5_holes_58 : decode cX5_holes 58 = .ok (.iconst 1, 1) := by decide +kernel
set_option maxRecDepth 20000 in
theorem dX5_holes_59 : decode cX5_holes 59 = .ok (.iadd, 1) := by decide +kernel
set_option maxRecDepth 20000 in
theorem dX5_holes_60 : decode cX5_holes 60 = .ok (.iload_n 2, 1) := by decide +kernel
set_option maxRecDepth 20000 in
theorem dX5_holes_61 : decode cX5_holes 61 = .ok (.invokevirtual 202, 3) := by decide +kernel
set_option maxRecDepth 20000 in
theorem dX5_holes_64 : decode cX5_holes 64 = .ok (.istore 4, 2) := by decide +kernel
set_option maxRecDepth 20000 in
theorem dX5_holes_66 : decode cX5_holes 66 = .ok (.aload_n 0, 1) := by decide +kernel
set_option maxRecDepth 20000 in
theorem dX5_holes_67 : decode cX5_holes 67 = .ok (.getfield 10, 3) := by decide +kernel
set_option maxRecDepth 20000 in
theorem dX5_holes_70 : decode cX5_holes 70 = .ok (.iload_n 1, 1) := by decide +kernel
set_option maxRecDepth 20000 in
theorem dX5_holes_71 : decode cX5_holes 71 = .ok (.invokevirtual 97, 3) := by decide +kernel
set_option maxRecDepth 20000 in
theorem dX5_holes_74 : decode cX5_holes 74 = .ok (.iload_n 3, 1) := by decide +kernel
set_option maxRecDepth 20000 in
theorem dX5_holes_75 : decode cX5_holes 75 = .ok (.isub, 1) := by decide +kernel
set_option maxRecDepth 20000 in
theorem dX5_holes_76 : decode cX5_holes 76 = .ok (.iload 4, 2) := by decide +kernel
set_option maxRecDepth 20000 in
theorem dX5_holes_78 : decode cX5_holes 78 = .ok (.isub, 1) := by decide +kernel
set_option maxRecDepth 20000 in
theorem dX5_holes_79 : decode cX5_holes 79 = .ok (.ireturn, 1) := by decide +kernel
set_option maxRecDepth 20000 in
theorem dX5_chain_0 : decode cX5_chain 0 = .ok (.iload_n 1, 1) := by decide +kernel
set_option maxRecDepth 20000 in
theorem dX5_chain_1 : decode cX5_chain 1 = .ok (.invokestatic 150, 3) := by decide +kernel
set_option maxRecDepth 20000 in
theorem dX5_chain_4 : decode cX5_chain 4 = .ok (.ifCond .eq 15, 3) := by decide +kernel
set_option maxRecDepth 20000 in
theorem dX5_chain_7 : decode cX5_chain 7 = .ok (.aload_n 0, 1) := by decide +kernel
set_option maxRecDepth 20000 in
theorem dX5_chain_8 : decode cX5_chain 8 = .ok (.getfield 10, 3) := by decide +kernel
set_option maxRecDepth 20000 in
theorem dX5_chain_11 : decode cX5_chain 11 = .ok (.iconst 1, 1) := by decide +kernel
set_option maxRecDepth 20000 in
theorem dX5_chain_12 : decode cX5_chain 12 = .ok (.iload_n 2, 1) := by decide +kernel
set_option maxRecDepth 20000 in
theorem dX5_chain_13 : decode cX5_chain 13 = .ok (.invokevirtual 127, 3) := by decide +kernel
set_option maxRecDepth 20000 in
theorem dX5_chain_16 : decode cX5_chain 16 = .ok (.ifCond .ne 6, 3) := by decide +kernel
set_option maxRecDepth 20000 in
theorem dX5_chain_19 : decode cX5_chain 19 = .ok (.ldc 65, 2) := by decide +kernel
set_option maxRecDepth 20000 in
theorem dX5_chain_21 : decode cX5_chain 21 = .ok (.ireturn, 1) := by decide +kernel
set_option maxRecDepth 20000 in
theorem dX5_chain_22 : decode cX5_chain 22 = .ok (.aload_n 0, 1) := by decide +kernel
set_option maxRecDepth 20000 in
theorem dX5_chain_23 : decode cX5_chain 23 = .ok (.getfield 10, 3) := by decide +kernel
set_option maxRecDepth 20000 in
theorem dX5_chain_26 : decode cX5_chain 26 = .ok (.iload_n 1, 1) := by decide +kernel
set_option maxRecDepth 20000 in
theorem dX5_chain_27 : decode cX5_chain 27 = .ok (.iload_n 2, 1) := by decide +kernel
set_option maxRecDepth 20000 in
theorem dX5_chain_28 : decode cX5_chain 28 = .ok (.invokevirtual 156, 3) := by decide +kernel
set_option maxRecDepth 20000 in
theorem dX5_chain_31 : decode cX5_chain 31 = .ok (.ireturn, 1) := by decide +kernel
set_option maxRecDepth 20000 in
theorem dX5_ends_0 : decode cX5_ends 0 = .ok (.iload_n 1, 1) := by decide +kernel
set_option maxRecDepth 20000 in
theorem dX5_ends_1 : decode cX5_ends 1 = .ok (.invokestatic 150, 3) := by decide +kernel
set_option maxRecDepth 20000 in
theorem dX5_ends_4 : decode cX5_ends 4 = .ok (.ifCond .eq 15, 3) := by decide +kernel
set_option maxRecDepth 20000 in
theorem dX5_ends_7 : decode cX5_ends 7 = .ok (.aload_n 0, 1) := by decide +kernel
set_option maxRecDepth 20000 in
theorem dX5_ends_8 : decode cX5_ends 8 = .ok (.getfield 10, 3) := by decide +kernel
set_option maxRecDepth 20000 in
theorem dX5_ends_11 : decode cX5_ends 11 = .ok (.iconst 0, 1) := by decide +kernel
set_option maxRecDepth 20000 in
theorem dX5_ends_12 : decode cX5_ends 12 = .ok (.iload_n 2, 1) := by decide +kernel
set_option maxRecDepth 20000 in
theorem dX5_ends_13 : decode cX5_ends 13 = .ok (.invokevirtual 127, 3) := by decide +kernel
set_option maxRecDepth 20000 in
theorem dX5_ends_16 : decode cX5_ends 16 = .ok (.ifCond .ne 6, 3) := by decide +kernel
set_option maxRecDepth 20000 in
theorem dX5_ends_19 : decode cX5_ends 19 = .ok (.ldc 65, 2) := by decide +kernel
set_option maxRecDepth 20000 in
theorem dX5_ends_21 : decode cX5_ends 21 = .ok (.ireturn, 1) := by decide +kernel
set_option maxRecDepth 20000 in
theorem dX5_ends_22 : decode cX5_ends 22 = .ok (.aload_n 0, 1) := by decide +kernel
set_option maxRecDepth 20000 in
theorem dX5_ends_23 : decode cX5_ends 23 = .ok (.getfield 10, 3) := by decide +kernel
set_option maxRecDepth 20000 in
theorem dX5_ends_26 : decode cX5_ends 26 = .ok (.iload_n 1, 1) := by decide +kernel
set_option maxRecDepth 20000 in
theorem dX5_ends_27 : decode cX5_ends 27 = .ok (.iload_n 2, 1) := by decide +kernel
set_option maxRecDepth 20000 in
theorem dX5_ends_28 : decode cX5_ends 28 = .ok (.invokevirtual 219, 3) := by decide +kernel
set_option maxRecDepth 20000 in
theorem dX5_ends_31 : decode cX5_ends 31 = .ok (.ireturn, 1) := by decide +kernel
set_option maxRecDepth 20000 in
theorem dX5_count_0 : decode cX5_count 0 = .ok (.iload_n 1, 1) := by decide +kernel
set_option maxRecDepth 20000 in
theorem dX5_count_1 : decode cX5_count 1 = .ok (.ifCond .lt 8, 3) := by decide +kernel
set_option maxRecDepth 20000 in
theorem dX5_count_4 : decode cX5_count 4 = .ok (.iload_n 1, 1) := by decide +kernel
set_option maxRecDepth 20000 in
theorem dX5_count_5 : decode cX5_count 5 = .ok (.iconst 4, 1) := by decide +kernel
set_option maxRecDepth 20000 in
theorem dX5_count_6 : decode cX5_count 6 = .ok (.if_icmp .le 6, 3) := by decide +kernel
set_option maxRecDepth 20000 in
theorem dX5_count_9 : decode cX5_count 9 = .ok (.ldc 65, 2) := by decide +kernel
set_option maxRecDepth 20000 in
theorem dX5_count_11 : decode cX5_count 11 = .ok (.ireturn, 1) := by decide +kernel
set_option maxRecDepth 20000 in
theorem dX5_count_12 : decode cX5_count 12 = .ok (.iload_n 1, 1) := by decide +kernel
set_option maxRecDepth 20000 in
theorem dX5_count_13 : decode cX5_count 13 = .ok (.iconst 3, 1) := by decide +kernel
set_option maxRecDepth 20000 in
theorem dX5_count_14 : decode cX5_count 14 = .ok (.if_icmp .ne 8, 3) := by decide +kernel
set_option maxRecDepth 20000 in
theorem dX5_count_17 : decode cX5_count 17 = .ok (.aload_n 0, 1) := by decide +kernel
set_option maxRecDepth 20000 in
theorem dX5_count_18 : decode cX5_count 18 = .ok (.getfield 59, 3) := by decide +kernel
set_option maxRecDepth 20000 in
theorem dX5_count_21 : decode cX5_count 21 = .ok (.ireturn, 1) := by decide +kernel
set_option maxRecDepth 20000 in
theorem dX5_count_22 : decode cX5_count 22 = .ok (.iload_n 1, 1) := by decide +kernel
set_option maxRecDepth 20000 in
theorem dX5_count_23 : decode cX5_count 23 = .ok (.iconst 4, 1) := by decide +kernel
set_option maxRecDepth 20000 in
theorem dX5_count_24 : decode cX5_count 24 = .ok (.if_icmp .ne 13, 3) := by decide +kernel
set_option maxRecDepth 20000 in
theorem dX5_count_27 : decode cX5_count 27 = .ok (.aload_n 0, 1) := by decide +kernel
set_option maxRecDepth 20000 in
theorem dX5_count_28 : decode cX5_count 28 = .ok (.getfield 22, 3) := by decide +kernel
set_option maxRecDepth 20000 in
theorem dX5_count_31 : decode cX5_count 31 = .ok (.invokevirtual 70, 3) := by decide +kernel
set_option maxRecDepth 20000 in
theorem dX5_count_34 : decode cX5_count 34 = .ok (.goto 11, 3) := by decide +kernel
set_option maxRecDepth 20000 in
theorem dX5_count_37 : decode cX5_count 37 = .ok (.aload_n 0, 1) := by decide +kernel
set_option maxRecDepth 20000 in
theorem dX5_count_38 : decode cX5_count 38 = .ok (.getfield 10, 3) := by decide +kernel
set_option maxRecDepth 20000 in
theorem dX5_count_41 : decode cX5_count 41 = .ok (.iload_n 1, 1) := by decide +kernel
set_option maxRecDepth 20000 in
theorem dX5_count_42 : decode cX5_count 42 = .ok (.invokevirtual 97, 3) := by decide +kernel
set_option maxRecDepth 20000 in
theorem dX5_count_45 : decode cX5_count 45 = .ok (.ireturn, 1) := by decide +kernel
set_option maxRecDepth 20000 in
theorem dX5_keepAct_0 : decode cX5_keepAct 0 = .ok (.aload_n 0, 1) := by decide +kernel
set_option maxRecDepth 20000 in
theorem dX5_keepAct_1 : decode cX5_keepAct 1 = .ok (.aload_n 0, 1) := by decide +kernel
set_option maxRecDepth 20000 in
theorem dX5_keepAct_2 : decode cX5_keepAct 2 = .ok (.getfield 55, 3) := by decide +kernel
set_option maxRecDepth 20000 in
theorem dX5_keepAct_5 : decode cX5_keepAct 5 = .ok (.iconst 1, 1) := by decide +kernel
set_option maxRecDepth 20000 in
theorem dX5_keepAct_6 : decode cX5_keepAct 6 = .ok (.iadd, 1) := by decide +kernel
set_option maxRecDepth 20000 in
theorem dX5_keepAct_7 : decode cX5_keepAct 7 = .ok (.bipush 8, 2) := by decide +kernel
set_option maxRecDepth 20000 in
theorem dX5_keepAct_9 : decode cX5_keepAct 9 = .ok (.irem, 1) := by decide +kernel
set_option maxRecDepth 20000 in
theorem dX5_keepAct_10 : decode cX5_keepAct 10 = .ok (.putfield 55, 3) := by decide +kernel
set_option maxRecDepth 20000 in
theorem dX5_keepAct_13 : decode cX5_keepAct 13 = .ok (.aload_n 0, 1) := by decide +kernel
set_option maxRecDepth 20000 in
theorem dX5_keepAct_14 : decode cX5_keepAct 14 = .ok (.getfield 55, 3) := by decide +kernel
set_option maxRecDepth 20000 in
theorem dX5_keepAct_17 : decode cX5_keepAct 17 = .ok (.aload_n 0, 1) := by decide +kernel
set_option maxRecDepth 20000 in
theorem dX5_keepAct_18 : decode cX5_keepAct 18 = .ok (.getfield 49, 3) := by decide +kernel
set_option maxRecDepth 20000 in
theorem dX5_keepAct_21 : decode cX5_keepAct 21 = .ok (.arraylength, 1) := by decide +kernel
set_option maxRecDepth 20000 in
theorem dX5_keepAct_22 : decode cX5_keepAct 22 = .ok (.invokestatic 101, 3) := by decide +kernel
set_option maxRecDepth 20000 in
theorem dX5_keepAct_25 : decode cX5_keepAct 25 = .ok (.ifCond .eq 19, 3) := by decide +kernel
set_option maxRecDepth 20000 in
theorem dX5_keepAct_28 : decode cX5_keepAct 28 = .ok (.aload_n 0, 1) := by decide +kernel
set_option maxRecDepth 20000 in
theorem dX5_keepAct_29 : decode cX5_keepAct 29 = .ok (.getfield 10, 3) := by decide +kernel
set_option maxRecDepth 20000 in
theorem dX5_keepAct_32 : decode cX5_keepAct 32 = .ok (.aload_n 0, 1) := by decide +kernel
set_option maxRecDepth 20000 in
theorem dX5_keepAct_33 : decode cX5_keepAct 33 = .ok (.getfield 49, 3) := by decide +kernel
set_option maxRecDepth 20000 in
theorem dX5_keepAct_36 : decode cX5_keepAct 36 = .ok (.aload_n 0, 1) := by decide +kernel
set_option maxRecDepth 20000 in
theorem dX5_keepAct_37 : decode cX5_keepAct 37 = .ok (.getfield 55, 3) := by decide +kernel
set_option maxRecDepth 20000 in
theorem dX5_keepAct_40 : decode cX5_keepAct 40 = .ok (.aaload, 1) := by decide +kernel
set_option maxRecDepth 20000 in
theorem dX5_keepAct_41 : decode cX5_keepAct 41 = .ok (.invokevirtual 275, 3) := by decide +kernel
set_option maxRecDepth 20000 in
theorem dX5_keepAct_44 : decode cX5_keepAct 44 = .ok (.aload_n 0, 1) := by decide +kernel
set_option maxRecDepth 20000 in
theorem dX5_keepAct_45 : decode cX5_keepAct 45 = .ok (.aload_n 0, 1) := by decide +kernel
set_option maxRecDepth 20000 in
theorem dX5_keepAct_46 : decode cX5_keepAct 46 = .ok (.getfield 59, 3) := by decide +kernel
set_option maxRecDepth 20000 in
theorem dX5_keepAct_49 : decode cX5_keepAct 49 = .ok (.iconst 1, 1) := by decide +kernel
set_option maxRecDepth 20000 in
theorem dX5_keepAct_50 : decode cX5_keepAct 50 = .ok (.iadd, 1) := by decide +kernel
set_option maxRecDepth 20000 in
theorem dX5_keepAct_51 : decode cX5_keepAct 51 = .ok (.bipush 8, 2) := by decide +kernel
set_option maxRecDepth 20000 in
theorem dX5_keepAct_53 : decode cX5_keepAct 53 = .ok (.invokestatic 282, 3) := by decide +kernel
set_option maxRecDepth 20000 in
theorem dX5_keepAct_56 : decode cX5_keepAct 56 = .ok (.putfield 59, 3) := by decide +kernel
set_option maxRecDepth 20000 in
theorem dX5_keepAct_59 : decode cX5_keepAct 59 = .ok (.return_, 1) := by decide +kernel
set_option maxRecDepth 20000 in
theorem dX5_tableRank_0 : decode cX5_tableRank 0 = .ok (.aload_n 0, 1) := by decide +kernel
set_option maxRecDepth 20000 in
theorem dX5_tableRank_1 : decode cX5_tableRank 1 = .ok (.getfield 36, 3) := by decide +kernel
set_option maxRecDepth 20000 in
theorem dX5_tableRank_4 : decode cX5_tableRank 4 = .ok (.aload_n 0, 1) := by decide +kernel
set_option maxRecDepth 20000 in
theorem dX5_tableRank_5 : decode cX5_tableRank 5 = .ok (.getfield 10, 3) := by decide +kernel
set_option maxRecDepth 20000 in
theorem dX5_tableRank_8 : decode cX5_tableRank 8 = .ok (.iload_n 1, 1) := by decide +kernel
set_option maxRecDepth 20000 in
theorem dX5_tableRank_9 : decode cX5_tableRank 9 = .ok (.invokevirtual 205, 3) := by decide +kernel
set_option maxRecDepth 20000 in
theorem dX5_tableRank_12 : decode cX5_tableRank 12 = .ok (.aload_n 0, 1) := by decide +kernel
set_option maxRecDepth 20000 in
theorem dX5_tableRank_13 : decode cX5_tableRank 13 = .ok (.getfield 36, 3) := by decide +kernel
set_option maxRecDepth 20000 in
theorem dX5_tableRank_16 : decode cX5_tableRank 16 = .ok (.invokevirtual 209, 3) := by decide +kernel
set_option maxRecDepth 20000 in
theorem dX5_tableRank_19 : decode cX5_tableRank 19 = .ok (.aload_n 0, 1) := by decide +kernel
set_option maxRecDepth 20000 in
theorem dX5_tableRank_20 : decode cX5_tableRank 20 = .ok (.getfield 36, 3) := by decide +kernel
set_option maxRecDepth 20000 in
theorem dX5_tableRank_23 : decode cX5_tableRank 23 = .ok (.iload_n 2, 1) := by decide +kernel
set_option maxRecDepth 20000 in
theorem dX5_tableRank_24 : decode cX5_tableRank 24 = .ok (.aload_n 0, 1) := by decide +kernel
set_option maxRecDepth 20000 in
theorem dX5_tableRank_25 : decode cX5_tableRank 25 = .ok (.getfield 36, 3) := by decide +kernel
set_option maxRecDepth 20000 in
theorem dX5_tableRank_28 : decode cX5_tableRank 28 = .ok (.invokevirtual 257, 3) := by decide +kernel
set_option maxRecDepth 20000 in
theorem dX5_tableRank_31 : decode cX5_tableRank 31 = .ok (.invokevirtual 212, 3) := by decide +kernel
set_option maxRecDepth 20000 in
theorem dX5_tableRank_34 : decode cX5_tableRank 34 = .ok (.ireturn, 1) := by decide +kernel
set_option maxRecDepth 20000 in
theorem dX5_isUpperCell_0 : decode cX5_isUpperCell 0 = .ok (.iload_n 1, 1) := by decide +kernel
set_option maxRecDepth 20000 in
theorem dX5_isUpperCell_1 : decode cX5_isUpperCell 1 = .ok (.ifCond .eq 19, 3) := by decide +kernel
set_option maxRecDepth 20000 in
theorem dX5_isUpperCell_4 : decode cX5_isUpperCell 4 = .ok (.aload_n 0, 1) := by decide +kernel
set_option maxRecDepth 20000 in
theorem dX5_isUpperCell_5 : decode cX5_isUpperCell 5 = .ok (.getfield 10, 3) := by decide +kernel
set_option maxRecDepth 20000 in
theorem dX5_isUpperCell_8 : decode cX5_isUpperCell 8 = .ok (.iload_n 1, 1) := by decide +kernel
set_option maxRecDepth 20000 in
theorem dX5_isUpperCell_9 : decode cX5_isUpperCell 9 = .ok (.iload_n 2, 1) := by decide +kernel
set_option maxRecDepth 20000 in
theorem dX5_isUpperCell_10 : decode cX5_isUpperCell 10 = .ok (.invokevirtual 127, 3) := by decide +kernel
set_option maxRecDepth 20000 in
theorem dX5_isUpperCell_13 : decode cX5_isUpperCell 13 = .ok (.ifCond .eq 7, 3) := by decide +kernel
set_option maxRecDepth 20000 in
theorem dX5_isUpperCell_16 : decode cX5_isUpperCell 16 = .ok (.iconst 1, 1) := by decide +kernel
set_option maxRecDepth 20000 in
theorem dX5_isUpperCell_17 : decode cX5_isUpperCell 17 = .ok (.goto 4, 3) := by decide +kernel
set_option maxRecDepth 20000 in
theorem dX5_isUpperCell_20 : decode cX5_isUpperCell 20 = .ok (.iconst 0, 1) := by decide +kernel
set_option maxRecDepth 20000 in
theorem dX5_isUpperCell_21 : decode cX5_isUpperCell 21 = .ok (.ireturn, 1) := by decide +kernel
set_option maxRecDepth 20000 in
theorem dX5_isWithin_0 : decode cX5_isWithin 0 = .ok (.iload_n 0, 1) := by decide +kernel
set_option maxRecDepth 20000 in
theorem dX5_isWithin_1 : decode cX5_isWithin 1 = .ok (.ifCond .lt 12, 3) := by decide +kernel
set_option maxRecDepth 20000 in
theorem dX5_isWithin_4 : decode cX5_isWithin 4 = .ok (.iload_n 0, 1) := by decide +kernel
set_option maxRecDepth 20000 in
theorem dX5_isWithin_5 : decode cX5_isWithin 5 = .ok (.iload_n 1, 1) := by decide +kernel
set_option maxRecDepth 20000 in
theorem dX5_isWithin_6 : decode cX5_isWithin 6 = .ok (.if_icmp .ge 7, 3) := by decide +kernel
set_option maxRecDepth 20000 in
theorem dX5_isWithin_9 : decode cX5_isWithin 9 = .ok (.iconst 1, 1) := by decide +kernel
set_option maxRecDepth 20000 in
theorem dX5_isWithin_10 : decode cX5_isWithin 10 = .ok (.goto 4, 3) := by decide +kernel
set_option maxRecDepth 20000 in
theorem dX5_isWithin_13 : decode cX5_isWithin 13 = .ok (.iconst 0, 1) := by decide +kernel
set_option maxRecDepth 20000 in
theorem dX5_isWithin_14 : decode cX5_isWithin 14 = .ok (.ireturn, 1) := by decide +kernel
set_option maxRecDepth 20000 in
theorem dX5_isChain_0 : decode cX5_isChain 0 = .ok (.iload_n 0, 1) := by decide +kernel
set_option maxRecDepth 20000 in
theorem dX5_isChain_1 : decode cX5_isChain 1 = .ok (.iconst 3, 1) := by decide +kernel
set_option maxRecDepth 20000 in
theorem dX5_isChain_2 : decode cX5_isChain 2 = .ok (.invokestatic 101, 3) := by decide +kernel
set_option maxRecDepth 20000 in
theorem dX5_isChain_5 : decode cX5_isChain 5 = .ok (.ireturn, 1) := by decide +kernel
set_option maxRecDepth 20000 in
theorem dX5_isWeight_0 : decode cX5_isWeight 0 = .ok (.iload_n 0, 1) := by decide +kernel
set_option maxRecDepth 20000 in
theorem dX5_isWeight_1 : decode cX5_isWeight 1 = .ok (.iconst 1, 1) := by decide +kernel
set_option maxRecDepth 20000 in
theorem dX5_isWeight_2 : decode cX5_isWeight 2 = .ok (.if_icmp .lt 12, 3) := by decide +kernel
set_option maxRecDepth 20000 in
theorem dX5_isWeight_5 : decode cX5_isWeight 5 = .ok (.iload_n 0, 1) := by decide +kernel
set_option maxRecDepth 20000 in
theorem dX5_isWeight_6 : decode cX5_isWeight 6 = .ok (.iconst 3, 1) := by decide +kernel
set_option maxRecDepth 20000 in
theorem dX5_isWeight_7 : decode cX5_isWeight 7 = .ok (.if_icmp .gt 7, 3) := by decide +kernel
set_option maxRecDepth 20000 in
theorem dX5_isWeight_10 : decode cX5_isWeight 10 = .ok (.iconst 1, 1) := by decide +kernel
set_option maxRecDepth 20000 in
theorem dX5_isWeight_11 : decode cX5_isWeight 11 = .ok (.goto 4, 3) := by decide +kernel
set_option maxRecDepth 20000 in
theorem dX5_isWeight_14 : decode cX5_isWeight 14 = .ok (.iconst 0, 1) := by decide +kernel
set_option maxRecDepth 20000 in
theorem dX5_isWeight_15 : decode cX5_isWeight 15 = .ok (.ireturn, 1) := by decide +kernel
set_option maxRecDepth 20000 in
theorem dX5_isNumber_0 : decode cX5_isNumber 0 = .ok (.iload_n 0, 1) := by decide +kernel
set_option maxRecDepth 20000 in
theorem dX5_isNumber_1 : decode cX5_isNumber 1 = .ok (.bipush (-9), 2) := by decide +kernel
set_option maxRecDepth 20000 in
theorem dX5_isNumber_3 : decode cX5_isNumber 3 = .ok (.if_icmp .lt 13, 3) := by decide +kernel
set_option maxRecDepth 20000 in
theorem dX5_isNumber_6 : decode cX5_isNumber 6 = .ok (.iload_n 0, 1) := by decide +kernel
set_option maxRecDepth 20000 in
theorem dX5_isNumber_7 : decode cX5_isNumber 7 = .ok (.bipush 9, 2) := by decide +kernel
set_option maxRecDepth 20000 in
theorem dX5_isNumber_9 : decode cX5_isNumber 9 = .ok (.if_icmp .gt 7, 3) := by decide +kernel
set_option maxRecDepth 20000 in
theorem dX5_isNumber_12 : decode cX5_isNumber 12 = .ok (.iconst 1, 1) := by decide +kernel
set_option maxRecDepth 20000 in
theorem dX5_isNumber_13 : decode cX5_isNumber 13 = .ok (.goto 4, 3) := by decide +kernel
set_option maxRecDepth 20000 in
theorem dX5_isNumber_16 : decode cX5_isNumber 16 = .ok (.iconst 0, 1) := by decide +kernel
set_option maxRecDepth 20000 in
theorem dX5_isNumber_17 : decode cX5_isNumber 17 = .ok (.ireturn, 1) := by decide +kernel
set_option maxRecDepth 20000 in
theorem dX5_isField_0 : decode cX5_isField 0 = .ok (.iload_n 0, 1) := by decide +kernel
set_option maxRecDepth 20000 in
theorem dX5_isField_1 : decode cX5_isField 1 = .ok (.ifCond .eq 24, 3) := by decide +kernel
set_option maxRecDepth 20000 in
theorem dX5_isField_4 : decode cX5_isField 4 = .ok (.iload_n 0, 1) := by decide +kernel
set_option maxRecDepth 20000 in
theorem dX5_isField_5 : decode cX5_isField 5 = .ok (.iconst 2, 1) := by decide +kernel
set_option maxRecDepth 20000 in
theorem dX5_isField_6 : decode cX5_isField 6 = .ok (.if_icmp .eq 19, 3) := by decide +kernel
set_option maxRecDepth 20000 in
theorem dX5_isField_9 : decode cX5_isField 9 = .ok (.iload_n 0, 1) := by decide +kernel
set_option maxRecDepth 20000 in
theorem dX5_isField_10 : decode cX5_isField 10 = .ok (.iconst 3, 1) := by decide +kernel
set_option maxRecDepth 20000 in
theorem dX5_isField_11 : decode cX5_isField 11 = .ok (.if_icmp .eq 14, 3) := by decide +kernel
set_option maxRecDepth 20000 in
theorem dX5_isField_14 : decode cX5_isField 14 = .ok (.iload_n 0, 1) := by decide +kernel
set_option maxRecDepth 20000 in
theorem dX5_isField_15 : decode cX5_isField 15 = .ok (.iconst 5, 1) := by decide +kernel
set_option maxRecDepth 20000 in
theorem dX5_isField_16 : decode cX5_isField 16 = .ok (.if_icmp .eq 9, 3) := by decide +kernel
set_option maxRecDepth 20000 in
theorem dX5_isField_19 : decode cX5_isField 19 = .ok (.iload_n 0, 1) := by decide +kernel
set_option maxRecDepth 20000 in
theorem dX5_isField_20 : decode cX5_isField 20 = .ok (.bipush 7, 2) := by decide +kernel
set_option maxRecDepth 20000 in
theorem dX5_isField_22 : decode cX5_isField 22 = .ok (.if_icmp .ne 7, 3) := by decide +kernel
set_option maxRecDepth 20000 in
theorem dX5_isField_25 : decode cX5_isField 25 = .ok (.iconst 1, 1) := by decide +kernel
set_option maxRecDepth 20000 in
theorem dX5_isField_26 : decode cX5_isField 26 = .ok (.goto 4, 3) := by decide +kernel
set_option maxRecDepth 20000 in
theorem dX5_isField_29 : decode cX5_isField 29 = .ok (.iconst 0, 1) := by decide +kernel
set_option maxRecDepth 20000 in
theorem dX5_isField_30 : decode cX5_isField 30 = .ok (.ireturn, 1) := by decide +kernel
set_option maxRecDepth 20000 in
theorem dJ6_bitCount_0f7a4_0 : decode cJ6_bitCount_0f7a4 0 = .ok (.iload_n 0, 1) := by decide +kernel
set_option maxRecDepth 20000 in
theorem dJ6_bitCount_0f7a4_1 : decode cJ6_bitCount_0f7a4 1 = .ok (.iload_n 0, 1) := by decide +kernel
set_option maxRecDepth 20000 in
theorem dJ6_bitCount_0f7a4_2 : decode cJ6_bitCount_0f7a4 2 = .ok (.iconst 1, 1) := by decide +kernel
set_option maxRecDepth 20000 in
theorem dJ6_bitCount_0f7a4_3 : decode cJ6_bitCount_0f7a4 3 = .ok (.iushr, 1) := by decide +kernel
set_option maxRecDepth 20000 in
theorem dJ6_bitCount_0f7a4_4 : decode cJ6_bitCount_0f7a4 4 = .ok (.ldc_w 265, 3) := by decide +kernel
set_option maxRecDepth 20000 in
theorem dJ6_bitCount_0f7a4_7 : decode cJ6_bitCount_0f7a4 7 = .ok (.iand, 1) := by decide +kernel
set_option maxRecDepth 20000 in
theorem dJ6_bitCount_0f7a4_8 : decode cJ6_bitCount_0f7a4 8 = .ok (.isub, 1) := by decide +kernel
set_option maxRecDepth 20000 in
theorem dJ6_bitCount_0f7a4_9 : decode cJ6_bitCount_0f7a4 9 = .ok (.istore_n 0, 1) := by decide +kernel
set_option maxRecDepth 20000 in
theorem dJ6_bitCount_0f7a4_10 : decode cJ6_bitCount_0f7a4 10 = .ok (.iload_n 0, 1) := by decide +kernel
set_option maxRecDepth 20000 in
theorem dJ6_bitCount_0f7a4_11 : decode cJ6_bitCount_0f7a4 11 = .ok (.ldc_w 266, 3) := by decide +kernel
set_option maxRecDepth 20000 in
theorem dJ6_bitCount_0f7a4_14 : decode cJ6_bitCount_0f7a4 14 = .ok (.iand, 1) := by decide +kernel
set_option maxRecDepth 20000 in
theorem dJ6_bitCount_0f7a4_15 : decode cJ6_bitCount_0f7a4 15 = .ok (.iload_n 0, 1) := by decide +kernel
set_option maxRecDepth 20000 in
theorem dJ6_bitCount_0f7a4_16 : decode cJ6_bitCount_0f7a4 16 = .ok (.iconst 2, 1) := by decide +kernel
set_option maxRecDepth 20000 in
theorem dJ6_bitCount_0f7a4_17 : decode cJ6_bitCount_0f7a4 17 = .ok (.iushr, 1) := by decide +kernel
set_option maxRecDepth 20000 in
theorem dJ6_bitCount_0f7a4_18 : decode cJ6_bitCount_0f7a4 18 = .ok (.ldc_w 266, 3) := by decide +kernel
set_option maxRecDepth 20000 in
theorem dJ6_bitCount_0f7a4_21 : decode cJ6_bitCount_0f7a4 21 = .ok (.iand, 1) := by decide +kernel
set_option maxRecDepth 20000 in
theorem dJ6_bitCount_0f7a4_22 : decode cJ6_bitCount_0f7a4 22 = .ok (.iadd, 1) := by decide +kernel
set_option maxRecDepth 20000 in
theorem dJ6_bitCount_0f7a4_23 : decode cJ6_bitCount_0f7a4 23 = .ok (.istore_n 0, 1) := by decide +kernel
set_option maxRecDepth 20000 in
theorem dJ6_bitCount_0f7a4_24 : decode cJ6_bitCount_0f7a4 24 = .ok (.iload_n 0, 1) := by decide +kernel
set_option maxRecDepth 20000 in
theorem dJ6_bitCount_0f7a4_25 : decode cJ6_bitCount_0f7a4 25 = .ok (.iload_n 0, 1) := by decide +kernel
set_option maxRecDepth 20000 in
theorem dJ6_bitCount_0f7a4_26 : decode cJ6_bitCount_0f7a4 26 = .ok (.iconst 4, 1) := by decide +kernel
set_option maxRecDepth 20000 in
theorem dJ6_bitCount_0f7a4_27 : decode cJ6_bitCount_0f7a4 27 = .ok (.iushr, 1) := by decide +kernel
set_option maxRecDepth 20000 in
theorem dJ6_bitCount_0f7a4_28 : decode cJ6_bitCount_0f7a4 28 = .ok (.iadd, 1) := by decide +kernel
set_option maxRecDepth 20000 in
theorem dJ6_bitCount_0f7a4_29 : decode cJ6_bitCount_0f7a4 29 = .ok (.ldc_w 267, 3) := by decide +kernel
set_option maxRecDepth 20000 in
theorem dJ6_bitCount_0f7a4_32 : decode cJ6_bitCount_0f7a4 32 = .ok (.iand, 1) := by decide +kernel
set_option maxRecDepth 20000 in
theorem dJ6_bitCount_0f7a4_33 : decode cJ6_bitCount_0f7a4 33 = .ok (.istore_n 0, 1) := by decide +kernel
set_option maxRecDepth 20000 in
theorem dJ6_bitCount_0f7a4_34 : decode cJ6_bitCount_0f7a4 34 = .ok (.iload_n 0, 1) := by decide +kernel
set_option maxRecDepth 20000 in
theorem dJ6_bitCount_0f7a4_35 : decode cJ6_bitCount_0f7a4 35 = .ok (.iload_n 0, 1) := by decide +kernel
set_option maxRecDepth 20000 in
theorem dJ6_bitCount_0f7a4_36 : decode cJ6_bitCount_0f7a4 36 = .ok (.bipush 8, 2) := by decide +kernel
set_option maxRecDepth 20000 in
theorem dJ6_bitCount_0f7a4_38 : decode cJ6_bitCount_0f7a4 38 = .ok (.iushr, 1) := by decide +kernel
set_option maxRecDepth 20000 in
theorem dJ6_bitCount_0f7a4_39 : decode cJ6_bitCount_0f7a4 39 = .ok (.iadd, 1) := by decide +kernel
set_option maxRecDepth 20000 in
theorem dJ6_bitCount_0f7a4_40 : decode cJ6_bitCount_0f7a4 40 = .ok (.istore_n 0, 1) := by decide +kernel
set_option maxRecDepth 20000 in
theorem dJ6_bitCount_0f7a4_41 : decode cJ6_bitCount_0f7a4 41 = .ok (.iload_n 0, 1) := by decide +kernel
set_option maxRecDepth 20000 in
theorem dJ6_bitCount_0f7a4_42 : decode cJ6_bitCount_0f7a4 42 = .ok (.iload_n 0, 1) := by decide +kernel
set_option maxRecDepth 20000 in
theorem dJ6_bitCount_0f7a4_43 : decode cJ6_bitCount_0f7a4 43 = .ok (.bipush 16, 2) := by decide +kernel
set_option maxRecDepth 20000 in
theorem dJ6_bitCount_0f7a4_45 : decode cJ6_bitCount_0f7a4 45 = .ok (.iushr, 1) := by decide +kernel
set_option maxRecDepth 20000 in
theorem dJ6_bitCount_0f7a4_46 : decode cJ6_bitCount_0f7a4 46 = .ok (.iadd, 1) := by decide +kernel
set_option maxRecDepth 20000 in
theorem dJ6_bitCount_0f7a4_47 : decode cJ6_bitCount_0f7a4 47 = .ok (.istore_n 0, 1) := by decide +kernel
set_option maxRecDepth 20000 in
theorem dJ6_bitCount_0f7a4_48 : decode cJ6_bitCount_0f7a4 48 = .ok (.iload_n 0, 1) := by decide +kernel
set_option maxRecDepth 20000 in
theorem dJ6_bitCount_0f7a4_49 : decode cJ6_bitCount_0f7a4 49 = .ok (.bipush 63, 2) := by decide +kernel
set_option maxRecDepth 20000 in
theorem dJ6_bitCount_0f7a4_51 : decode cJ6_bitCount_0f7a4 51 = .ok (.iand, 1) := by decide +kernel
set_option maxRecDepth 20000 in
theorem dJ6_bitCount_0f7a4_52 : decode cJ6_bitCount_0f7a4 52 = .ok (.ireturn, 1) := by decide +kernel
set_option maxRecDepth 20000 in
theorem dL_cell_0 : decode cL_cell 0 = .ok (.iload_n 1, 1) := by decide +kernel
set_option maxRecDepth 20000 in
theorem dL_cell_1 : decode cL_cell 1 = .ok (.aload_n 0, 1) := by decide +kernel
set_option maxRecDepth 20000 in
theorem dL_cell_2 : decode cL_cell 2 = .ok (.arraylength, 1) := by decide +kernel
set_option maxRecDepth 20000 in
theorem dL_cell_3 : decode cL_cell 3 = .ok (.if_icmp .ge 9, 3) := by decide +kernel
set_option maxRecDepth 20000 in
theorem dL_cell_6 : decode cL_cell 6 = .ok (.aload_n 0, 1) := by decide +kernel
set_option maxRecDepth 20000 in
theorem dL_cell_7 : decode cL_cell 7 = .ok (.iload_n 1, 1) := by decide +kernel
set_option maxRecDepth 20000 in
theorem dL_cell_8 : decode cL_cell 8 = .ok (.iaload, 1) := by decide +kernel
set_option maxRecDepth 20000 in
theorem dL_cell_9 : decode cL_cell 9 = .ok (.goto 9, 3) := by decide +kernel
set_option maxRecDepth 20000 in
theorem dL_cell_12 : decode cL_cell 12 = .ok (.ldc 7, 2) := by decide +kernel
set_option maxRecDepth 20000 in
theorem dL_cell_14 : decode cL_cell 14 = .ok (.iload_n 1, 1) := by decide +kernel
set_option maxRecDepth 20000 in
theorem dL_cell_15 : decode cL_cell 15 = .ok (.iconst 1, 1) := by decide +kernel
set_option maxRecDepth 20000 in
theorem dL_cell_16 : decode cL_cell 16 = .ok (.iadd, 1) := by decide +kernel
set_option maxRecDepth 20000 in
theorem dL_cell_17 : decode cL_cell 17 = .ok (.imul, 1) := by decide +kernel
set_option maxRecDepth 20000 in
theorem dL_cell_18 : decode cL_cell 18 = .ok (.ireturn, 1) := by decide +kernel
set_option maxRecDepth 20000 in
theorem dL_less_0 : decode cL_less 0 = .ok (.iload_n 0, 1) := by decide +kernel
set_option maxRecDepth 20000 in
theorem dL_less_1 : decode cL_less 1 = .ok (.ldc 8, 2) := by decide +kernel
set_option maxRecDepth 20000 in
theorem dL_less_3 : decode cL_less 3 = .ok (.iand, 1) := by decide +kernel
set_option maxRecDepth 20000 in
theorem dL_less_4 : decode cL_less 4 = .ok (.iload_n 1, 1) := by decide +kernel
set_option maxRecDepth 20000 in
theorem dL_less_5 : decode cL_less 5 = .ok (.irem, 1) := by decide +kernel
set_option maxRecDepth 20000 in
theorem dL_less_6 : decode cL_less 6 = .ok (.ireturn, 1) := by decide +kernel
set_option maxRecDepth 20000 in
theorem dL_one_0 : decode cL_one 0 = .ok (.aload_n 0, 1) := by decide +kernel
set_option maxRecDepth 20000 in
theorem dL_one_1 : decode cL_one 1 = .ok (.iconst 5, 1) := by decide +kernel
set_option maxRecDepth 20000 in
theorem dL_one_2 : decode cL_one 2 = .ok (.iconst 3, 1) := by decide +kernel
set_option maxRecDepth 20000 in
theorem dL_one_3 : decode cL_one 3 = .ok (.iload_n 2, 1) := by decide +kernel
set_option maxRecDepth 20000 in
theorem dL_one_4 : decode cL_one 4 = .ok (.imul, 1) := by decide +kernel
set_option maxRecDepth 20000 in
theorem dL_one_5 : decode cL_one 5 = .ok (.iadd, 1) := by decide +kernel
set_option maxRecDepth 20000 in
theorem dL_one_6 : decode cL_one 6 = .ok (.iaload, 1) := by decide +kernel
set_option maxRecDepth 20000 in
theorem dL_one_7 : decode cL_one 7 = .ok (.iload_n 1, 1) := by decide +kernel
set_option maxRecDepth 20000 in
theorem dL_one_8 : decode cL_one 8 = .ok (.if_icmp .ne 7, 3) := by decide +kernel
set_option maxRecDepth 20000 in
theorem dL_one_11 : decode cL_one 11 = .ok (.iconst 1, 1) := by decide +kernel
set_option maxRecDepth 20000 in
theorem dL_one_12 : decode cL_one 12 = .ok (.goto 4, 3) := by decide +kernel
set_option maxRecDepth 20000 in
theorem dL_one_15 : decode cL_one 15 = .ok (.iconst 0, 1) := by decide +kernel
set_option maxRecDepth 20000 in
theorem dL_one_16 : decode cL_one 16 = .ok (.aload_n 0, 1) := by decide +kernel
set_option maxRecDepth 20000 in
theorem dL_one_17 : decode cL_one 17 = .ok (.iconst 4, 1) := by decide +kernel
set_option maxRecDepth 20000 in
theorem dL_one_18 : decode cL_one 18 = .ok (.iconst 3, 1) := by decide +kernel
set_option maxRecDepth 20000 in
theorem dL_one_19 : decode cL_one 19 = .ok (.iload_n 2, 1) := by decide +kernel
set_option maxRecDepth 20000 in
theorem dL_one_20 : decode cL_one 20 = .ok (.imul, 1) := by decide +kernel
set_option maxRecDepth 20000 in
theorem dL_one_21 : decode cL_one 21 = .ok (.iadd, 1) := by decide +kernel
set_option maxRecDepth 20000 in
theorem dL_one_22 : decode cL_one 22 = .ok (.iaload, 1) := by decide +kernel
set_option maxRecDepth 20000 in
theorem dL_one_23 : decode cL_one 23 = .ok (.iload_n 1, 1) := by decide +kernel
set_option maxRecDepth 20000 in
theorem dL_one_24 : decode cL_one 24 = .ok (.if_icmp .ne 7, 3) := by decide +kernel
set_option maxRecDepth 20000 in
theorem dL_one_27 : decode cL_one 27 = .ok (.iconst 1, 1) := by decide +kernel
set_option maxRecDepth 20000 in
theorem dL_one_28 : decode cL_one 28 = .ok (.goto 4, 3) := by decide +kernel
set_option maxRecDepth 20000 in
theorem dL_one_31 : decode cL_one 31 = .ok (.iconst 0, 1) := by decide +kernel
set_option maxRecDepth 20000 in
theorem dL_one_32 : decode cL_one 32 = .ok (.isub, 1) := by decide +kernel
set_option maxRecDepth 20000 in
theorem dL_one_33 : decode cL_one 33 = .ok (.ireturn, 1) := by decide +kernel
set_option maxRecDepth 20000 in
theorem dL_two_0 : decode cL_two 0 = .ok (.iconst 0, 1) := by decide +kernel
set_option maxRecDepth 20000 in
theorem dL_two_1 : decode cL_two 1 = .ok (.istore_n 3, 1) := by decide +kernel
set_option maxRecDepth 20000 in
theorem dL_two_2 : decode cL_two 2 = .ok (.iconst 0, 1) := by decide +kernel
set_option maxRecDepth 20000 in
theorem dL_two_3 : decode cL_two 3 = .ok (.istore 4, 2) := by decide +kernel
set_option maxRecDepth 20000 in
theorem dL_two_5 : decode cL_two 5 = .ok (.iload 4, 2) := by decide +kernel
set_option maxRecDepth 20000 in
theorem dL_two_7 : decode cL_two 7 = .ok (.aload_n 0, 1) := by decide +kernel
set_option maxRecDepth 20000 in
theorem dL_two_8 : decode cL_two 8 = .ok (.bipush 23, 2) := by decide +kernel
set_option maxRecDepth 20000 in
theorem dL_two_10 : decode cL_two 10 = .ok (.bipush 6, 2) := by decide +kernel
set_option maxRecDepth 20000 in
theorem dL_two_12 : decode cL_two 12 = .ok (.iload_n 2, 1) := by decide +kernel
set_option maxRecDepth 20000 in
theorem dL_two_13 : decode cL_two 13 = .ok (.imul, 1) := by decide +kernel
set_option maxRecDepth 20000 in
theorem dL_two_14 : decode cL_two 14 = .ok (.iadd, 1) := by decide +kernel
set_option maxRecDepth 20000 in
theorem dL_two_15 : decode cL_two 15 = .ok (.iaload, 1) := by decide +kernel
set_option maxRecDepth 20000 in
theorem dL_two_16 : decode cL_two 16 = .ok (.if_icmp .ge 52, 3) := by decide +kernel
set_option maxRecDepth 20000 in
theorem dL_two_19 : decode cL_two 19 = .ok (.aload_n 0, 1) := by decide +kernel
set_option maxRecDepth 20000 in
theorem dL_two_20 : decode cL_two 20 = .ok (.bipush 24, 2) := by decide +kernel
set_option maxRecDepth 20000 in
theorem dL_two_22 : decode cL_two 22 = .ok (.bipush 6, 2) := by decide +kernel
set_option maxRecDepth 20000 in
theorem dL_two_24 : decode cL_two 24 = .ok (.iload_n 2, 1) := by decide +kernel
set_option maxRecDepth 20000 in
theorem dL_two_25 : decode cL_two 25 = .ok (.imul, 1) := by decide +kernel
set_option maxRecDepth 20000 in
theorem dL_two_26 : decode cL_two 26 = .ok (.iadd, 1) := by decide +kernel
set_option maxRecDepth 20000 in
theorem dL_two_27 : decode cL_two 27 = .ok (.iload 4, 2) := by decide +kernel
set_option maxRecDepth 20000 in
theorem dL_two_29 : decode cL_two 29 = .ok (.iadd, 1) := by decide +kernel
set_option maxRecDepth 20000 in
theorem dL_two_30 : decode cL_two 30 = .ok (.iaload, 1) := by decide +kernel
set_option maxRecDepth 20000 in
theorem dL_two_31 : decode cL_two 31 = .ok (.istore 5, 2) := by decide +kernel
set_option maxRecDepth 20000 in
theorem dL_two_33 : decode cL_two 33 = .ok (.iload_n 3, 1) := by decide +kernel
set_option maxRecDepth 20000 in
theorem dL_two_34 : decode cL_two 34 = .ok (.iload 5, 2) := by decide +kernel
set_option maxRecDepth 20000 in
theorem dL_two_36 : decode cL_two 36 = .ok (.iload_n 1, 1) := by decide +kernel
set_option maxRecDepth 20000 in
theorem dL_two_37 : decode cL_two 37 = .ok (.iconst 1, 1) := by decide +kernel
set_option maxRecDepth 20000 in
theorem dL_two_38 : decode cL_two 38 = .ok (.iadd, 1) := by decide +kernel
set_option maxRecDepth 20000 in
theorem dL_two_39 : decode cL_two 39 = .ok (.if_icmp .ne 7, 3) := by decide +kernel
set_option maxRecDepth 20000 in
theorem dL_two_42 : decode cL_two 42 = .ok (.iconst 1, 1) := by decide +kernel
set_option maxRecDepth 20000 in
theorem dL_two_43 : decode cL_two 43 = .ok (.goto 17, 3) := by decide +kernel
set_option maxRecDepth 20000 in
theorem dL_two_46 : decode cL_two 46 = .ok (.iload 5, 2) := by decide +kernel
set_option maxRecDepth 20000 in
theorem dL_two_48 : decode cL_two 48 = .ok (.iload_n 1, 1) := by decide +kernel
set_option maxRecDepth 20000 in
theorem dL_two_49 : decode cL_two 49 = .ok (.ineg, 1) := by decide +kernel
set_option maxRecDepth 20000 in
theorem dL_two_50 : decode cL_two 50 = .ok (.iconst 1, 1) := by decide +kernel
set_option maxRecDepth 20000 in
theorem dL_two_51 : decode cL_two 51 = .ok (.isub, 1) := by decide +kernel
set_option maxRecDepth 20000 in
theorem dL_two_52 : decode cL_two 52 = .ok (.if_icmp .ne 7, 3) := by decide +kernel
set_option maxRecDepth 20000 in
theorem dL_two_55 : decode cL_two 55 = .ok (.iconst (-1), 1) := by decide +kernel
set_option maxRecDepth 20000 in
theorem dL_two_56 : decode cL_two 56 = .ok (.goto 4, 3) := by decide +kernel
set_option maxRecDepth 20000 in
theorem dL_two_59 : decode cL_two 59 = .ok (.iconst 0, 1) := by decide +kernel
set_option maxRecDepth 20000 in
theorem dL_two_60 : decode cL_two 60 = .ok (.iadd, 1) := by decide +kernel
set_option maxRecDepth 20000 in
theorem dL_two_61 : decode cL_two 61 = .ok (.istore_n 3, 1) := by decide +kernel
set_option maxRecDepth 20000 in
theorem dL_two_62 : decode cL_two 62 = .ok (.iinc 4 1, 3) := by decide +kernel
set_option maxRecDepth 20000 in
theorem dL_two_65 : decode cL_two 65 = .ok (.goto (-60), 3) := by decide +kernel
set_option maxRecDepth 20000 in
theorem dL_two_68 : decode cL_two 68 = .ok (.iload_n 3, 1) := by decide +kernel
set_option maxRecDepth 20000 in
theorem dL_two_69 : decode cL_two 69 = .ok (.ireturn, 1) := by decide +kernel
set_option maxRecDepth 20000 in
theorem dL_at_0 : decode cL_at 0 = .ok (.iload_n 1, 1) := by decide +kernel
set_option maxRecDepth 20000 in
theorem dL_at_1 : decode cL_at 1 = .ok (.iconst 1, 1) := by decide +kernel
set_option maxRecDepth 20000 in
theorem dL_at_2 : decode cL_at 2 = .ok (.if_icmp .ne 12, 3) := by decide +kernel
set_option maxRecDepth 20000 in
theorem dL_at_5 : decode cL_at 5 = .ok (.aload_n 0, 1) := by decide +kernel
set_option maxRecDepth 20000 in
theorem dL_at_6 : decode cL_at 6 = .ok (.iload_n 2, 1) := by decide +kernel
set_option maxRecDepth 20000 in
theorem dL_at_7 : decode cL_at 7 = .ok (.iload_n 3, 1) := by decide +kernel
set_option maxRecDepth 20000 in
theorem dL_at_8 : decode cL_at 8 = .ok (.invokestatic 9, 3) := by decide +kernel
set_option maxRecDepth 20000 in
theorem dL_at_11 : decode cL_at 11 = .ok (.goto 23, 3) := by decide +kernel
set_option maxRecDepth 20000 in
theorem dL_at_14 : decode cL_at 14 = .ok (.iload_n 3, 1) := by decide +kernel
set_option maxRecDepth 20000 in
theorem dL_at_15 : decode cL_at 15 = .ok (.iconst 4, 1) := by decide +kernel
set_option maxRecDepth 20000 in
theorem dL_at_16 : decode cL_at 16 = .ok (.if_icmp .ne 12, 3) := by decide +kernel
set_option maxRecDepth 20000 in
theorem dL_at_19 : decode cL_at 19 = .ok (.aload_n 0, 1) := by decide +kernel
set_option maxRecDepth 20000 in
theorem dL_at_20 : decode cL_at 20 = .ok (.bipush 46, 2) := by decide +kernel
set_option maxRecDepth 20000 in
theorem dL_at_22 : decode cL_at 22 = .ok (.iload_n 2, 1) := by decide +kernel
set_option maxRecDepth 20000 in
theorem dL_at_23 : decode cL_at 23 = .ok (.iadd, 1) := by decide +kernel
set_option maxRecDepth 20000 in
theorem dL_at_24 : decode cL_at 24 = .ok (.iaload, 1) := by decide +kernel
set_option maxRecDepth 20000 in
theorem dL_at_25 : decode cL_at 25 = .ok (.goto 9, 3) := by decide +kernel
set_option maxRecDepth 20000 in
theorem dL_at_28 : decode cL_at 28 = .ok (.aload_n 0, 1) := by decide +kernel
set_option maxRecDepth 20000 in
theorem dL_at_29 : decode cL_at 29 = .ok (.iload_n 2, 1) := by decide +kernel
set_option maxRecDepth 20000 in
theorem dL_at_30 : decode cL_at 30 = .ok (.iload_n 3, 1) := by decide +kernel
set_option maxRecDepth 20000 in
theorem dL_at_31 : decode cL_at 31 = .ok (.invokestatic 15, 3) := by decide +kernel
set_option maxRecDepth 20000 in
theorem dL_at_34 : decode cL_at 34 = .ok (.ireturn, 1) := by decide +kernel
set_option maxRecDepth 20000 in
theorem dL_rows_0 : decode cL_rows 0 = .ok (.aload_n 0, 1) := by decide +kernel
set_option maxRecDepth 20000 in
theorem dL_rows_1 : decode cL_rows 1 = .ok (.iload_n 1, 1) := by decide +kernel
set_option maxRecDepth 20000 in
theorem dL_rows_2 : decode cL_rows 2 = .ok (.iconst 1, 1) := by decide +kernel
set_option maxRecDepth 20000 in
theorem dL_rows_3 : decode cL_rows 3 = .ok (.isub, 1) := by decide +kernel
set_option maxRecDepth 20000 in
theorem dL_rows_4 : decode cL_rows 4 = .ok (.iaload, 1) := by decide +kernel
set_option maxRecDepth 20000 in
theorem dL_rows_5 : decode cL_rows 5 = .ok (.ireturn, 1) := by decide +kernel
set_option maxRecDepth 20000 in
theorem dL_ones_0 : decode cL_ones 0 = .ok (.iconst 0, 1) := by decide +kernel
set_option maxRecDepth 20000 in
theorem dL_ones_1 : decode cL_ones 1 = .ok (.istore_n 1, 1) := by decide +kernel
set_option maxRecDepth 20000 in
theorem dL_ones_2 : decode cL_ones 2 = .ok (.iload_n 0, 1) := by decide +kernel
set_option maxRecDepth 20000 in
theorem dL_ones_3 : decode cL_ones 3 = .ok (.istore_n 2, 1) := by decide +kernel
set_option maxRecDepth 20000 in
theorem dL_ones_4 : decode cL_ones 4 = .ok (.iload_n 2, 1) := by decide +kernel
set_option maxRecDepth 20000 in
theorem dL_ones_5 : decode cL_ones 5 = .ok (.ifCond .eq 15, 3) := by decide +kernel
set_option maxRecDepth 20000 in
theorem dL_ones_8 : decode cL_ones 8 = .ok (.iinc 1 1, 3) := by decide +kernel
set_option maxRecDepth 20000 in
theorem dL_ones_11 : decode cL_ones 11 = .ok (.iload_n 2, 1) := by decide +kernel
set_option maxRecDepth 20000 in
theorem dL_ones_12 : decode cL_ones 12 = .ok (.iload_n 2, 1) := by decide +kernel
set_option maxRecDepth 20000 in
theorem dL_ones_13 : decode cL_ones 13 = .ok (.iconst 1, 1) := by decide +kernel
set_option maxRecDepth 20000 in
theorem dL_ones_14 : decode cL_ones 14 = .ok (.isub, 1) := by decide +kernel
set_option maxRecDepth 20000 in
theorem dL_ones_15 : decode cL_ones 15 = .ok (.iand, 1) := by decide +kernel
set_option maxRecDepth 20000 in
theorem dL_ones_16 : decode cL_ones 16 = .ok (.istore_n 2, 1) := by decide +kernel
set_option maxRecDepth 20000 in
theorem dL_ones_17 : decode cL_ones 17 = .ok (.goto (-13), 3) := by decide +kernel
set_option maxRecDepth 20000 in
theorem dL_ones_20 : decode cL_ones 20 = .ok (.iload_n 1, 1) := by decide +kernel
set_option maxRecDepth 20000 in
theorem dL_ones_21 : decode cL_ones 21 = .ok (.ireturn, 1) := by decide +kernel
set_option maxRecDepth 20000 in
theorem dL_nth_0 : decode cL_nth 0 = .ok (.iload_n 0, 1) := by decide +kernel
set_option maxRecDepth 20000 in
theorem dL_nth_1 : decode cL_nth 1 = .ok (.istore_n 2, 1) := by decide +kernel
set_option maxRecDepth 20000 in
theorem dL_nth_2 : decode cL_nth 2 = .ok (.iconst 0, 1) := by decide +kernel
set_option maxRecDepth 20000 in
theorem dL_nth_3 : decode cL_nth 3 = .ok (.istore_n 3, 1) := by decide +kernel
set_option maxRecDepth 20000 in
theorem dL_nth_4 : decode cL_nth 4 = .ok (.iload_n 3, 1) := by decide +kernel
set_option maxRecDepth 20000 in
theorem dL_nth_5 : decode cL_nth 5 = .ok (.iload_n 1, 1) := by decide +kernel
set_option maxRecDepth 20000 in
theorem dL_nth_6 : decode cL_nth 6 = .ok (.if_icmp .ge 15, 3) := by decide +kernel
set_option maxRecDepth 20000 in
theorem dL_nth_9 : decode cL_nth 9 = .ok (.iload_n 2, 1) := by decide +kernel
set_option maxRecDepth 20000 in
theorem dL_nth_10 : decode cL_nth 10 = .ok (.iload_n 2, 1) := by decide +kernel
set_option maxRecDepth 20000 in
theorem dL_nth_11 : decode cL_nth 11 = .ok (.iconst 1, 1) := by decide +kernel
set_option maxRecDepth 20000 in
theorem dL_nth_12 : decode cL_nth 12 = .ok (.isub, 1) := by decide +kernel
set_option maxRecDepth 20000 in
theorem dL_nth_13 : decode cL_nth 13 = .ok (.iand, 1) := by decide +kernel
set_option maxRecDepth 20000 in
theorem dL_nth_14 : decode cL_nth 14 = .ok (.istore_n 2, 1) := by decide +kernel
set_option maxRecDepth 20000 in
theorem dL_nth_15 : decode cL_nth 15 = .ok (.iinc 3 1, 3) := by decide +kernel
set_option maxRecDepth 20000 in
theorem dL_nth_18 : decode cL_nth 18 = .ok (.goto (-14), 3) := by decide +kernel
set_option maxRecDepth 20000 in
theorem dL_nth_21 : decode cL_nth 21 = .ok (.iload_n 2, 1) := by decide +kernel
set_option maxRecDepth 20000 in
theorem dL_nth_22 : decode cL_nth 22 = .ok (.iconst 0, 1) := by decide +kernel
set_option maxRecDepth 20000 in
theorem dL_nth_23 : decode cL_nth 23 = .ok (.iload_n 2, 1) := by decide +kernel
set_option maxRecDepth 20000 in
theorem dL_nth_24 : decode cL_nth 24 = .ok (.isub, 1) := by decide +kernel
set_option maxRecDepth 20000 in
theorem dL_nth_25 : decode cL_nth 25 = .ok (.iand, 1) := by decide +kernel
set_option maxRecDepth 20000 in
theorem dL_nth_26 : decode cL_nth 26 = .ok (.iconst 1, 1) := by decide +kernel
set_option maxRecDepth 20000 in
theorem dL_nth_27 : decode cL_nth 27 = .ok (.isub, 1) := by decide +kernel
set_option maxRecDepth 20000 in
theorem dL_nth_28 : decode cL_nth 28 = .ok (.invokestatic 18, 3) := by decide +kernel
set_option maxRecDepth 20000 in
theorem dL_nth_31 : decode cL_nth 31 = .ok (.ireturn, 1) := by decide +kernel
set_option maxRecDepth 20000 in
theorem dL_gcd_0 : decode cL_gcd 0 = .ok (.lload_n 0, 1) := by decide +kernel
set_option maxRecDepth 20000 in
theorem dL_gcd_1 : decode cL_gcd 1 = .ok (.lconst 0, 1) := by decide +kernel
set_option maxRecDepth 20000 in
theorem dL_gcd_2 : decode cL_gcd 2 = .ok (.lcmp, 1) := by decide +kernel
set_option maxRecDepth 20000 in
theorem dL_gcd_3 : decode cL_gcd 3 = .ok (.ifCond .ge 8, 3) := by decide +kernel
set_option maxRecDepth 20000 in
theorem dL_gcd_6 : decode cL_gcd 6 = .ok (.lload_n 0, 1) := by decide +kernel
set_option maxRecDepth 20000 in
theorem dL_gcd_7 : decode cL_gcd 7 = .ok (.lneg, 1) := by decide +kernel
set_option maxRecDepth 20000 in
theorem dL_gcd_8 : decode cL_gcd 8 = .ok (.goto 4, 3) := by decide +kernel
set_option maxRecDepth 20000 in
theorem dL_gcd_11 : decode cL_gcd 11 = .ok (.lload_n 0, 1) := by decide +kernel
set_option maxRecDepth 20000 in
theorem dL_gcd_12 : decode cL_gcd 12 = .ok (.lstore 4, 2) := by decide +kernel
set_option maxRecDepth 20000 in
theorem dL_gcd_14 : decode cL_gcd 14 = .ok (.lload_n 2, 1) := by decide +kernel
set_option maxRecDepth 20000 in
theorem dL_gcd_15 : decode cL_gcd 15 = .ok (.lconst 0, 1) := by decide +kernel
set_option maxRecDepth 20000 in
theorem dL_gcd_16 : decode cL_gcd 16 = .ok (.lcmp, 1) := by decide +kernel
set_option maxRecDepth 20000 in
theorem dL_gcd_17 : decode cL_gcd 17 = .ok (.ifCond .ge 8, 3) := by decide +kernel
set_option maxRecDepth 20000 in
theorem dL_gcd_20 : decode cL_gcd 20 = .ok (.lload_n 2, 1) := by decide +kernel
set_option maxRecDepth 20000 in
theorem dL_gcd_21 : decode cL_gcd 21 = .ok (.lneg, 1) := by decide +kernel
set_option maxRecDepth 20000 in
theorem dL_gcd_22 : decode cL_gcd 22 = .ok (.goto 4, 3) := by decide +kernel
set_option maxRecDepth 20000 in
theorem dL_gcd_25 : decode cL_gcd 25 = .ok (.lload_n 2, 1) := by decide +kernel
set_option maxRecDepth 20000 in
theorem dL_gcd_26 : decode cL_gcd 26 = .ok (.lstore 6, 2) := by decide +kernel
set_option maxRecDepth 20000 in
theorem dL_gcd_28 : decode cL_gcd 28 = .ok (.lload 6, 2) := by decide +kernel
set_option maxRecDepth 20000 in
theorem dL_gcd_30 : decode cL_gcd 30 = .ok (.lconst 0, 1) := by decide +kernel
set_option maxRecDepth 20000 in
theorem dL_gcd_31 : decode cL_gcd 31 = .ok (.lcmp, 1) := by decide +kernel
set_option maxRecDepth 20000 in
theorem dL_gcd_32 : decode cL_gcd 32 = .ok (.ifCond .le 21, 3) := by decide +kernel
set_option maxRecDepth 20000 in
theorem dL_gcd_35 : decode cL_gcd 35 = .ok (.lload 4, 2) := by decide +kernel
set_option maxRecDepth 20000 in
theorem dL_gcd_37 : decode cL_gcd 37 = .ok (.lload 6, 2) := by decide +kernel
set_option maxRecDepth 20000 in
theorem dL_gcd_39 : decode cL_gcd 39 = .ok (.lrem, 1) := by decide +kernel
set_option maxRecDepth 20000 in
theorem dL_gcd_40 : decode cL_gcd 40 = .ok (.lstore 8, 2) := by decide +kernel
set_option maxRecDepth 20000 in
theorem dL_gcd_42 : decode cL_gcd 42 = .ok (.lload 6, 2) := by decide +kernel
set_option maxRecDepth 20000 in
theorem dL_gcd_44 : decode cL_gcd 44 = .ok (.lstore 4, 2) := by decide +kernel
set_option maxRecDepth 20000 in
theorem dL_gcd_46 : decode cL_gcd 46 = .ok (.lload 8, 2) := by decide +kernel
set_option maxRecDepth 20000 in
theorem dL_gcd_48 : decode cL_gcd 48 = .ok (.lstore 6, 2) := by decide +kernel
set_option maxRecDepth 20000 in
theorem dL_gcd_50 : decode cL_gcd 50 = .ok (.goto (-22), 3) := by decide +kernel
set_option maxRecDepth 20000 in
theorem dL_gcd_53 : decode cL_gcd 53 = .ok (.lload 4, 2) := by decide +kernel
set_option maxRecDepth 20000 in
theorem dL_gcd_55 : decode cL_gcd 55 = .ok (.lreturn, 1) := by decide +kernel
set_option maxRecDepth 20000 in
theorem dL_rank_0 : decode cL_rank 0 = .ok (.iconst 0, 1) := by decide +kernel
set_option maxRecDepth 20000 in
theorem dL_rank_1 : decode cL_rank 1 = .ok (.istore_n 3, 1) := by decide +kernel
set_option maxRecDepth 20000 in
theorem dL_rank_2 : decode cL_rank 2 = .ok (.lconst 1, 1) := by decide +kernel
set_option maxRecDepth 20000 in
theorem dL_rank_3 : decode cL_rank 3 = .ok (.lstore 4, 2) := by decide +kernel
set_option maxRecDepth 20000 in
theorem dL_rank_5 : decode cL_rank 5 = .ok (.iconst 0, 1) := by decide +kernel
set_option maxRecDepth 20000 in
theorem dL_rank_6 : decode cL_rank 6 = .ok (.istore 6, 2) := by decide +kernel
set_option maxRecDepth 20000 in
theorem dL_rank_8 : decode cL_rank 8 = .ok (.iload 6, 2) := by decide +kernel
set_option maxRecDepth 20000 in
theorem dL_rank_10 : decode cL_rank 10 = .ok (.iload_n 2, 1) := by decide +kernel
set_option maxRecDepth 20000 in
theorem dL_rank_11 : decode cL_rank 11 = .ok (.if_icmp .ge 209, 3) := by decide +kernel
set_option maxRecDepth 20000 in
theorem dL_rank_14 : decode cL_rank 14 = .ok (.iload_n 3, 1) := by decide +kernel
set_option maxRecDepth 20000 in
theorem dL_rank_15 : decode cL_rank 15 = .ok (.iload_n 1, 1) := by decide +kernel
set_option maxRecDepth 20000 in
theorem dL_rank_16 : decode cL_rank 16 = .ok (.if_icmp .ge 204, 3) := by decide +kernel
set_option maxRecDepth 20000 in
theorem dL_rank_19 : decode cL_rank 19 = .ok (.iload_n 3, 1) := by decide +kernel
set_option maxRecDepth 20000 in
theorem dL_rank_20 : decode cL_rank 20 = .ok (.istore 7, 2) := by decide +kernel
set_option maxRecDepth 20000 in
theorem dL_rank_22 : decode cL_rank 22 = .ok (.iload 7, 2) := by decide +kernel
set_option maxRecDepth 20000 in
theorem dL_rank_24 : decode cL_rank 24 = .ok (.iload_n 1, 1) := by decide +kernel
set_option maxRecDepth 20000 in
theorem dL_rank_25 : decode cL_rank 25 = .ok (.if_icmp .ge 24, 3) := by decide +kernel
set_option maxRecDepth 20000 in
theorem dL_rank_28 : decode cL_rank 28 = .ok (.aload_n 0, 1) := by decide +kernel
set_option maxRecDepth 20000 in
theorem dL_rank_29 : decode cL_rank 29 = .ok (.bipush 7, 2) := by decide +kernel
set_option maxRecDepth 20000 in
theorem dL_rank_31 : decode cL_rank 31 = .ok (.iload 7, 2) := by decide +kernel
set_option maxRecDepth 20000 in
theorem dL_rank_33 : decode cL_rank 33 = .ok (.imul, 1) := by decide +kernel
set_option maxRecDepth 20000 in
theorem dL_rank_34 : decode cL_rank 34 = .ok (.iload 6, 2) := by decide +kernel
set_option maxRecDepth 20000 in
theorem dL_rank_36 : decode cL_rank 36 = .ok (.iadd, 1) := by decide +kernel
set_option maxRecDepth 20000 in
theorem dL_rank_37 : decode cL_rank 37 = .ok (.laload, 1) := by decide +kernel
set_option maxRecDepth 20000 in
theorem dL_rank_38 : decode cL_rank 38 = .ok (.lconst 0, 1) := by decide +kernel
set_option maxRecDepth 20000 in
theorem dL_rank_39 : decode cL_rank 39 = .ok (.lcmp, 1) := by decide +kernel
set_option maxRecDepth 20000 in
theorem dL_rank_40 : decode cL_rank 40 = .ok (.ifCond .ne 9, 3) := by decide +kernel
set_option maxRecDepth 20000 in
theorem dL_rank_43 : decode cL_rank 43 = .ok (.iinc 7 1, 3) := by decide +kernel
set_option maxRecDepth 20000 in
theorem dL_rank_46 : decode cL_rank 46 = .ok (.goto (-24), 3) := by decide +kernel
set_option maxRecDepth 20000 in
theorem dL_rank_49 : decode cL_rank 49 = .ok (.iload 7, 2) := by decide +kernel
set_option maxRecDepth 20000 in
theorem dL_rank_51 : decode cL_rank 51 = .ok (.iload_n 1, 1) := by decide +kernel
set_option maxRecDepth 20000 in
theorem dL_rank_52 : decode cL_rank 52 = .ok (.if_icmp .ge 162, 3) := by decide +kernel
set_option maxRecDepth 20000 in
theorem dL_rank_55 : decode cL_rank 55 = .ok (.iconst 0, 1) := by decide +kernel
set_option maxRecDepth 20000 in
theorem dL_rank_56 : decode cL_rank 56 = .ok (.istore 8, 2) := by decide +kernel
set_option maxRecDepth 20000 in
theorem dL_rank_58 : decode cL_rank 58 = .ok (.iload 8, 2) := by decide +kernel
set_option maxRecDepth 20000 in
theorem dL_rank_60 : decode cL_rank 60 = .ok (.bipush 7, 2) := by decide +kernel
set_option maxRecDepth 20000 in
theorem dL_rank_62 : decode cL_rank 62 = .ok (.if_icmp .ge 51, 3) := by decide +kernel
set_option maxRecDepth 20000 in
theorem dL_rank_65 : decode cL_rank 65 = .ok (.aload_n 0, 1) := by decide +kernel
set_option maxRecDepth 20000 in
theorem dL_rank_66 : decode cL_rank 66 = .ok (.bipush 7, 2) := by decide +kernel
set_option maxRecDepth 20000 in
theorem dL_rank_68 : decode cL_rank 68 = .ok (.iload 7, 2) := by decide +kernel
