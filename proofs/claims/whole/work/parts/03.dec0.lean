set_option maxRecDepth 20000 in
theorem dX0_init_0 : decode cX0_init 0 = .ok (.aload_n 0, 1) := by decide +kernel
set_option maxRecDepth 20000 in
theorem dX0_init_1 : decode cX0_init 1 = .ok (.invokespecial 5, 3) := by decide +kernel
set_option maxRecDepth 20000 in
theorem dX0_init_4 : decode cX0_init 4 = .ok (.aload_n 0, 1) := by decide +kernel
set_option maxRecDepth 20000 in
theorem dX0_init_5 : decode cX0_init 5 = .ok (.bipush 63, 2) := by decide +kernel
set_option maxRecDepth 20000 in
theorem dX0_init_7 : decode cX0_init 7 = .ok (.newarray .int, 2) := by decide +kernel
set_option maxRecDepth 20000 in
theorem dX0_init_9 : decode cX0_init 9 = .ok (.putfield 11, 3) := by decide +kernel
set_option maxRecDepth 20000 in
theorem dX0_init_12 : decode cX0_init 12 = .ok (.return_, 1) := by decide +kernel
set_option maxRecDepth 20000 in
theorem dX0_row_0 : decode cX0_row 0 = .ok (.aload_n 0, 1) := by decide +kernel
set_option maxRecDepth 20000 in
theorem dX0_row_1 : decode cX0_row 1 = .ok (.getfield 11, 3) := by decide +kernel
set_option maxRecDepth 20000 in
theorem dX0_row_4 : decode cX0_row 4 = .ok (.areturn, 1) := by decide +kernel
set_option maxRecDepth 20000 in
theorem dX0_clear_0 : decode cX0_clear 0 = .ok (.iconst 0, 1) := by decide +kernel
set_option maxRecDepth 20000 in
theorem dX0_clear_1 : decode cX0_clear 1 = .ok (.istore_n 1, 1) := by decide +kernel
set_option maxRecDepth 20000 in
theorem dX0_clear_2 : decode cX0_clear 2 = .ok (.iload_n 1, 1) := by decide +kernel
set_option maxRecDepth 20000 in
theorem dX0_clear_3 : decode cX0_clear 3 = .ok (.aload_n 0, 1) := by decide +kernel
set_option maxRecDepth 20000 in
theorem dX0_clear_4 : decode cX0_clear 4 = .ok (.getfield 11, 3) := by decide +kernel
set_option maxRecDepth 20000 in
theorem dX0_clear_7 : decode cX0_clear 7 = .ok (.arraylength, 1) := by decide +kernel
set_option maxRecDepth 20000 in
theorem dX0_clear_8 : decode cX0_clear 8 = .ok (.if_icmp .ge 16, 3) := by decide +kernel
set_option maxRecDepth 20000 in
theorem dX0_clear_11 : decode cX0_clear 11 = .ok (.aload_n 0, 1) := by decide +kernel
set_option maxRecDepth 20000 in
theorem dX0_clear_12 : decode cX0_clear 12 = .ok (.getfield 11, 3) := by decide +kernel
set_option maxRecDepth 20000 in
theorem dX0_clear_15 : decode cX0_clear 15 = .ok (.iload_n 1, 1) := by decide +kernel
set_option maxRecDepth 20000 in
theorem dX0_clear_16 : decode cX0_clear 16 = .ok (.iconst 0, 1) := by decide +kernel
set_option maxRecDepth 20000 in
theorem dX0_clear_17 : decode cX0_clear 17 = .ok (.iastore, 1) := by decide +kernel
set_option maxRecDepth 20000 in
theorem dX0_clear_18 : decode cX0_clear 18 = .ok (.iinc 1 1, 3) := by decide +kernel
set_option maxRecDepth 20000 in
theorem dX0_clear_21 : decode cX0_clear 21 = .ok (.goto (-19), 3) := by decide +kernel
set_option maxRecDepth 20000 in
theorem dX0_clear_24 : decode cX0_clear 24 = .ok (.return_, 1) := by decide +kernel
set_option maxRecDepth 20000 in
theorem dX0_saveTo_0 : decode cX0_saveTo 0 = .ok (.aload_n 1, 1) := by decide +kernel
set_option maxRecDepth 20000 in
theorem dX0_saveTo_1 : decode cX0_saveTo 1 = .ok (.ifnull 28, 3) := by decide +kernel
set_option maxRecDepth 20000 in
theorem dX0_saveTo_4 : decode cX0_saveTo 4 = .ok (.aload_n 1, 1) := by decide +kernel
set_option maxRecDepth 20000 in
theorem dX0_saveTo_5 : decode cX0_saveTo 5 = .ok (.arraylength, 1) := by decide +kernel
set_option maxRecDepth 20000 in
theorem dX0_saveTo_6 : decode cX0_saveTo 6 = .ok (.aload_n 0, 1) := by decide +kernel
set_option maxRecDepth 20000 in
theorem dX0_saveTo_7 : decode cX0_saveTo 7 = .ok (.getfield 11, 3) := by decide +kernel
set_option maxRecDepth 20000 in
theorem dX0_saveTo_10 : decode cX0_saveTo 10 = .ok (.arraylength, 1) := by decide +kernel
set_option maxRecDepth 20000 in
theorem dX0_saveTo_11 : decode cX0_saveTo 11 = .ok (.if_icmp .ne 18, 3) := by decide +kernel
set_option maxRecDepth 20000 in
theorem dX0_saveTo_14 : decode cX0_saveTo 14 = .ok (.aload_n 0, 1) := by decide +kernel
set_option maxRecDepth 20000 in
theorem dX0_saveTo_15 : decode cX0_saveTo 15 = .ok (.getfield 11, 3) := by decide +kernel
set_option maxRecDepth 20000 in
theorem dX0_saveTo_18 : decode cX0_saveTo 18 = .ok (.iconst 0, 1) := by decide +kernel
set_option maxRecDepth 20000 in
theorem dX0_saveTo_19 : decode cX0_saveTo 19 = .ok (.aload_n 1, 1) := by decide +kernel
set_option maxRecDepth 20000 in
theorem dX0_saveTo_20 : decode cX0_saveTo 20 = .ok (.iconst 0, 1) := by decide +kernel
set_option maxRecDepth 20000 in
theorem dX0_saveTo_21 : decode cX0_saveTo 21 = .ok (.aload_n 0, 1) := by decide +kernel
set_option maxRecDepth 20000 in
theorem dX0_saveTo_22 : decode cX0_saveTo 22 = .ok (.getfield 11, 3) := by decide +kernel
set_option maxRecDepth 20000 in
theorem dX0_saveTo_25 : decode cX0_saveTo 25 = .ok (.arraylength, 1) := by decide +kernel
set_option maxRecDepth 20000 in
theorem dX0_saveTo_26 : decode cX0_saveTo 26 = .ok (.invokestatic 15, 3) := by decide +kernel
set_option maxRecDepth 20000 in
theorem dX0_saveTo_29 : decode cX0_saveTo 29 = .ok (.return_, 1) := by decide +kernel
set_option maxRecDepth 20000 in
theorem dX0_loadFrom_0 : decode cX0_loadFrom 0 = .ok (.aload_n 1, 1) := by decide +kernel
set_option maxRecDepth 20000 in
theorem dX0_loadFrom_1 : decode cX0_loadFrom 1 = .ok (.ifnull 28, 3) := by decide +kernel
set_option maxRecDepth 20000 in
theorem dX0_loadFrom_4 : decode cX0_loadFrom 4 = .ok (.aload_n 1, 1) := by decide +kernel
set_option maxRecDepth 20000 in
theorem dX0_loadFrom_5 : decode cX0_loadFrom 5 = .ok (.arraylength, 1) := by decide +kernel
set_option maxRecDepth 20000 in
theorem dX0_loadFrom_6 : decode cX0_loadFrom 6 = .ok (.aload_n 0, 1) := by decide +kernel
set_option maxRecDepth 20000 in
theorem dX0_loadFrom_7 : decode cX0_loadFrom 7 = .ok (.getfield 11, 3) := by decide +kernel
set_option maxRecDepth 20000 in
theorem dX0_loadFrom_10 : decode cX0_loadFrom 10 = .ok (.arraylength, 1) := by decide +kernel
set_option maxRecDepth 20000 in
theorem dX0_loadFrom_11 : decode cX0_loadFrom 11 = .ok (.if_icmp .ne 18, 3) := by decide +kernel
set_option maxRecDepth 20000 in
theorem dX0_loadFrom_14 : decode cX0_loadFrom 14 = .ok (.aload_n 1, 1) := by decide +kernel
set_option maxRecDepth 20000 in
theorem dX0_loadFrom_15 : decode cX0_loadFrom 15 = .ok (.iconst 0, 1) := by decide +kernel
set_option maxRecDepth 20000 in
theorem dX0_loadFrom_16 : decode cX0_loadFrom 16 = .ok (.aload_n 0, 1) := by decide +kernel
set_option maxRecDepth 20000 in
theorem dX0_loadFrom_17 : decode cX0_loadFrom 17 = .ok (.getfield 11, 3) := by decide +kernel
set_option maxRecDepth 20000 in
theorem dX0_loadFrom_20 : decode cX0_loadFrom 20 = .ok (.iconst 0, 1) := by decide +kernel
set_option maxRecDepth 20000 in
theorem dX0_loadFrom_21 : decode cX0_loadFrom 21 = .ok (.aload_n 0, 1) := by decide +kernel
set_option maxRecDepth 20000 in
theorem dX0_loadFrom_22 : decode cX0_loadFrom 22 = .ok (.getfield 11, 3) := by decide +kernel
set_option maxRecDepth 20000 in
theorem dX0_loadFrom_25 : decode cX0_loadFrom 25 = .ok (.arraylength, 1) := by decide +kernel
set_option maxRecDepth 20000 in
theorem dX0_loadFrom_26 : decode cX0_loadFrom 26 = .ok (.invokestatic 15, 3) := by decide +kernel
set_option maxRecDepth 20000 in
theorem dX0_loadFrom_29 : decode cX0_loadFrom 29 = .ok (.return_, 1) := by decide +kernel
set_option maxRecDepth 20000 in
theorem dX0_isKeptIn_0 : decode cX0_isKeptIn 0 = .ok (.aload_n 0, 1) := by decide +kernel
set_option maxRecDepth 20000 in
theorem dX0_isKeptIn_1 : decode cX0_isKeptIn 1 = .ok (.ifnull 18, 3) := by decide +kernel
set_option maxRecDepth 20000 in
theorem dX0_isKeptIn_4 : decode cX0_isKeptIn 4 = .ok (.aload_n 0, 1) := by decide +kernel
set_option maxRecDepth 20000 in
theorem dX0_isKeptIn_5 : decode cX0_isKeptIn 5 = .ok (.arraylength, 1) := by decide +kernel
set_option maxRecDepth 20000 in
theorem dX0_isKeptIn_6 : decode cX0_isKeptIn 6 = .ok (.ifCond .le 13, 3) := by decide +kernel
set_option maxRecDepth 20000 in
theorem dX0_isKeptIn_9 : decode cX0_isKeptIn 9 = .ok (.aload_n 0, 1) := by decide +kernel
set_option maxRecDepth 20000 in
theorem dX0_isKeptIn_10 : decode cX0_isKeptIn 10 = .ok (.iconst 0, 1) := by decide +kernel
set_option maxRecDepth 20000 in
theorem dX0_isKeptIn_11 : decode cX0_isKeptIn 11 = .ok (.iaload, 1) := by decide +kernel
set_option maxRecDepth 20000 in
theorem dX0_isKeptIn_12 : decode cX0_isKeptIn 12 = .ok (.ifCond .le 7, 3) := by decide +kernel
set_option maxRecDepth 20000 in
theorem dX0_isKeptIn_15 : decode cX0_isKeptIn 15 = .ok (.iconst 1, 1) := by decide +kernel
set_option maxRecDepth 20000 in
theorem dX0_isKeptIn_16 : decode cX0_isKeptIn 16 = .ok (.goto 4, 3) := by decide +kernel
set_option maxRecDepth 20000 in
theorem dX0_isKeptIn_19 : decode cX0_isKeptIn 19 = .ok (.iconst 0, 1) := by decide +kernel
set_option maxRecDepth 20000 in
theorem dX0_isKeptIn_20 : decode cX0_isKeptIn 20 = .ok (.ireturn, 1) := by decide +kernel
set_option maxRecDepth 20000 in
theorem dX0_slot_0 : decode cX0_slot 0 = .ok (.iload_n 1, 1) := by decide +kernel
set_option maxRecDepth 20000 in
theorem dX0_slot_1 : decode cX0_slot 1 = .ok (.ifCond .lt 21, 3) := by decide +kernel
set_option maxRecDepth 20000 in
theorem dX0_slot_4 : decode cX0_slot 4 = .ok (.iload_n 1, 1) := by decide +kernel
set_option maxRecDepth 20000 in
theorem dX0_slot_5 : decode cX0_slot 5 = .ok (.aload_n 0, 1) := by decide +kernel
set_option maxRecDepth 20000 in
theorem dX0_slot_6 : decode cX0_slot 6 = .ok (.getfield 11, 3) := by decide +kernel
set_option maxRecDepth 20000 in
theorem dX0_slot_9 : decode cX0_slot 9 = .ok (.arraylength, 1) := by decide +kernel
set_option maxRecDepth 20000 in
theorem dX0_slot_10 : decode cX0_slot 10 = .ok (.if_icmp .ge 12, 3) := by decide +kernel
set_option maxRecDepth 20000 in
theorem dX0_slot_13 : decode cX0_slot 13 = .ok (.aload_n 0, 1) := by decide +kernel
set_option maxRecDepth 20000 in
theorem dX0_slot_14 : decode cX0_slot 14 = .ok (.getfield 11, 3) := by decide +kernel
set_option maxRecDepth 20000 in
theorem dX0_slot_17 : decode cX0_slot 17 = .ok (.iload_n 1, 1) := by decide +kernel
set_option maxRecDepth 20000 in
theorem dX0_slot_18 : decode cX0_slot 18 = .ok (.iaload, 1) := by decide +kernel
set_option maxRecDepth 20000 in
theorem dX0_slot_19 : decode cX0_slot 19 = .ok (.goto 4, 3) := by decide +kernel
set_option maxRecDepth 20000 in
theorem dX0_slot_22 : decode cX0_slot 22 = .ok (.iconst 0, 1) := by decide +kernel
set_option maxRecDepth 20000 in
theorem dX0_slot_23 : decode cX0_slot 23 = .ok (.ireturn, 1) := by decide +kernel
set_option maxRecDepth 20000 in
theorem dX0_setSlot_0 : decode cX0_setSlot 0 = .ok (.iload_n 1, 1) := by decide +kernel
set_option maxRecDepth 20000 in
theorem dX0_setSlot_1 : decode cX0_setSlot 1 = .ok (.ifCond .lt 19, 3) := by decide +kernel
set_option maxRecDepth 20000 in
theorem dX0_setSlot_4 : decode cX0_setSlot 4 = .ok (.iload_n 1, 1) := by decide +kernel
set_option maxRecDepth 20000 in
theorem dX0_setSlot_5 : decode cX0_setSlot 5 = .ok (.aload_n 0, 1) := by decide +kernel
set_option maxRecDepth 20000 in
theorem dX0_setSlot_6 : decode cX0_setSlot 6 = .ok (.getfield 11, 3) := by decide +kernel
set_option maxRecDepth 20000 in
theorem dX0_setSlot_9 : decode cX0_setSlot 9 = .ok (.arraylength, 1) := by decide +kernel
set_option maxRecDepth 20000 in
theorem dX0_setSlot_10 : decode cX0_setSlot 10 = .ok (.if_icmp .ge 10, 3) := by decide +kernel
set_option maxRecDepth 20000 in
theorem dX0_setSlot_13 : decode cX0_setSlot 13 = .ok (.aload_n 0, 1) := by decide +kernel
set_option maxRecDepth 20000 in
theorem dX0_setSlot_14 : decode cX0_setSlot 14 = .ok (.getfield 11, 3) := by decide +kernel
set_option maxRecDepth 20000 in
theorem dX0_setSlot_17 : decode cX0_setSlot 17 = .ok (.iload_n 1, 1) := by decide +kernel
set_option maxRecDepth 20000 in
theorem dX0_setSlot_18 : decode cX0_setSlot 18 = .ok (.iload_n 2, 1) := by decide +kernel
set_option maxRecDepth 20000 in
theorem dX0_setSlot_19 : decode cX0_setSlot 19 = .ok (.iastore, 1) := by decide +kernel
set_option maxRecDepth 20000 in
theorem dX0_setSlot_20 : decode cX0_setSlot 20 = .ok (.return_, 1) := by decide +kernel
set_option maxRecDepth 20000 in
theorem dX0_isThere_0 : decode cX0_isThere 0 = .ok (.aload_n 0, 1) := by decide +kernel
set_option maxRecDepth 20000 in
theorem dX0_isThere_1 : decode cX0_isThere 1 = .ok (.iconst 0, 1) := by decide +kernel
set_option maxRecDepth 20000 in
theorem dX0_isThere_2 : decode cX0_isThere 2 = .ok (.invokevirtual 21, 3) := by decide +kernel
set_option maxRecDepth 20000 in
theorem dX0_isThere_5 : decode cX0_isThere 5 = .ok (.ifCond .le 7, 3) := by decide +kernel
set_option maxRecDepth 20000 in
theorem dX0_isThere_8 : decode cX0_isThere 8 = .ok (.iconst 1, 1) := by decide +kernel
set_option maxRecDepth 20000 in
theorem dX0_isThere_9 : decode cX0_isThere 9 = .ok (.goto 4, 3) := by decide +kernel
set_option maxRecDepth 20000 in
theorem dX0_isThere_12 : decode cX0_isThere 12 = .ok (.iconst 0, 1) := by decide +kernel
set_option maxRecDepth 20000 in
theorem dX0_isThere_13 : decode cX0_isThere 13 = .ok (.ireturn, 1) := by decide +kernel
set_option maxRecDepth 20000 in
theorem dX0_sizeOf_0 : decode cX0_sizeOf 0 = .ok (.iload_n 1, 1) := by decide +kernel
set_option maxRecDepth 20000 in
theorem dX0_sizeOf_1 : decode cX0_sizeOf 1 = .ok (.ifCond .lt 16, 3) := by decide +kernel
set_option maxRecDepth 20000 in
theorem dX0_sizeOf_4 : decode cX0_sizeOf 4 = .ok (.iload_n 1, 1) := by decide +kernel
set_option maxRecDepth 20000 in
theorem dX0_sizeOf_5 : decode cX0_sizeOf 5 = .ok (.iconst 2, 1) := by decide +kernel
set_option maxRecDepth 20000 in
theorem dX0_sizeOf_6 : decode cX0_sizeOf 6 = .ok (.if_icmp .gt 11, 3) := by decide +kernel
set_option maxRecDepth 20000 in
theorem dX0_sizeOf_9 : decode cX0_sizeOf 9 = .ok (.aload_n 0, 1) := by decide +kernel
set_option maxRecDepth 20000 in
theorem dX0_sizeOf_10 : decode cX0_sizeOf 10 = .ok (.iload_n 1, 1) := by decide +kernel
set_option maxRecDepth 20000 in
theorem dX0_sizeOf_11 : decode cX0_sizeOf 11 = .ok (.invokevirtual 25, 3) := by decide +kernel
set_option maxRecDepth 20000 in
theorem dX0_sizeOf_14 : decode cX0_sizeOf 14 = .ok (.goto 4, 3) := by decide +kernel
set_option maxRecDepth 20000 in
theorem dX0_sizeOf_17 : decode cX0_sizeOf 17 = .ok (.iconst 0, 1) := by decide +kernel
set_option maxRecDepth 20000 in
theorem dX0_sizeOf_18 : decode cX0_sizeOf 18 = .ok (.ireturn, 1) := by decide +kernel
set_option maxRecDepth 20000 in
theorem dX0_hasCell_0 : decode cX0_hasCell 0 = .ok (.iload_n 2, 1) := by decide +kernel
set_option maxRecDepth 20000 in
theorem dX0_hasCell_1 : decode cX0_hasCell 1 = .ok (.aload_n 0, 1) := by decide +kernel
set_option maxRecDepth 20000 in
theorem dX0_hasCell_2 : decode cX0_hasCell 2 = .ok (.iload_n 1, 1) := by decide +kernel
set_option maxRecDepth 20000 in
theorem dX0_hasCell_3 : decode cX0_hasCell 3 = .ok (.invokevirtual 21, 3) := by decide +kernel
set_option maxRecDepth 20000 in
theorem dX0_hasCell_6 : decode cX0_hasCell 6 = .ok (.invokestatic 28, 3) := by decide +kernel
set_option maxRecDepth 20000 in
theorem dX0_hasCell_9 : decode cX0_hasCell 9 = .ok (.ireturn, 1) := by decide +kernel
set_option maxRecDepth 20000 in
theorem dX0_setPoints_0 : decode cX0_setPoints 0 = .ok (.aload_n 0, 1) := by decide +kernel
set_option maxRecDepth 20000 in
theorem dX0_setPoints_1 : decode cX0_setPoints 1 = .ok (.iconst 0, 1) := by decide +kernel
set_option maxRecDepth 20000 in
theorem dX0_setPoints_2 : decode cX0_setPoints 2 = .ok (.iload_n 1, 1) := by decide +kernel
set_option maxRecDepth 20000 in
theorem dX0_setPoints_3 : decode cX0_setPoints 3 = .ok (.invokevirtual 32, 3) := by decide +kernel
set_option maxRecDepth 20000 in
theorem dX0_setPoints_6 : decode cX0_setPoints 6 = .ok (.return_, 1) := by decide +kernel
set_option maxRecDepth 20000 in
theorem dX0_fromOf_0 : decode cX0_fromOf 0 = .ok (.aload_n 0, 1) := by decide +kernel
set_option maxRecDepth 20000 in
theorem dX0_fromOf_1 : decode cX0_fromOf 1 = .ok (.iconst 3, 1) := by decide +kernel
set_option maxRecDepth 20000 in
theorem dX0_fromOf_2 : decode cX0_fromOf 2 = .ok (.iload_n 1, 1) := by decide +kernel
set_option maxRecDepth 20000 in
theorem dX0_fromOf_3 : decode cX0_fromOf 3 = .ok (.iadd, 1) := by decide +kernel
set_option maxRecDepth 20000 in
theorem dX0_fromOf_4 : decode cX0_fromOf 4 = .ok (.invokevirtual 25, 3) := by decide +kernel
set_option maxRecDepth 20000 in
theorem dX0_fromOf_7 : decode cX0_fromOf 7 = .ok (.ireturn, 1) := by decide +kernel
set_option maxRecDepth 20000 in
theorem dX0_toOf_0 : decode cX0_toOf 0 = .ok (.aload_n 0, 1) := by decide +kernel
set_option maxRecDepth 20000 in
theorem dX0_toOf_1 : decode cX0_toOf 1 = .ok (.bipush 9, 2) := by decide +kernel
set_option maxRecDepth 20000 in
theorem dX0_toOf_3 : decode cX0_toOf 3 = .ok (.iload_n 1, 1) := by decide +kernel
set_option maxRecDepth 20000 in
theorem dX0_toOf_4 : decode cX0_toOf 4 = .ok (.iadd, 1) := by decide +kernel
set_option maxRecDepth 20000 in
theorem dX0_toOf_5 : decode cX0_toOf 5 = .ok (.invokevirtual 25, 3) := by decide +kernel
set_option maxRecDepth 20000 in
theorem dX0_toOf_8 : decode cX0_toOf 8 = .ok (.ireturn, 1) := by decide +kernel
set_option maxRecDepth 20000 in
theorem dX0_weightOf_0 : decode cX0_weightOf 0 = .ok (.aload_n 0, 1) := by decide +kernel
set_option maxRecDepth 20000 in
theorem dX0_weightOf_1 : decode cX0_weightOf 1 = .ok (.iload_n 1, 1) := by decide +kernel
set_option maxRecDepth 20000 in
theorem dX0_weightOf_2 : decode cX0_weightOf 2 = .ok (.iconst 1, 1) := by decide +kernel
set_option maxRecDepth 20000 in
theorem dX0_weightOf_3 : decode cX0_weightOf 3 = .ok (.if_icmp .ne 8, 3) := by decide +kernel
set_option maxRecDepth 20000 in
theorem dX0_weightOf_6 : decode cX0_weightOf 6 = .ok (.bipush 15, 2) := by decide +kernel
set_option maxRecDepth 20000 in
theorem dX0_weightOf_8 : decode cX0_weightOf 8 = .ok (.goto 5, 3) := by decide +kernel
set_option maxRecDepth 20000 in
theorem dX0_weightOf_11 : decode cX0_weightOf 11 = .ok (.bipush 21, 2) := by decide +kernel
set_option maxRecDepth 20000 in
theorem dX0_weightOf_13 : decode cX0_weightOf 13 = .ok (.iload_n 2, 1) := by decide +kernel
set_option maxRecDepth 20000 in
theorem dX0_weightOf_14 : decode cX0_weightOf 14 = .ok (.iadd, 1) := by decide +kernel
set_option maxRecDepth 20000 in
theorem dX0_weightOf_15 : decode cX0_weightOf 15 = .ok (.invokevirtual 25, 3) := by decide +kernel
set_option maxRecDepth 20000 in
theorem dX0_weightOf_18 : decode cX0_weightOf 18 = .ok (.ireturn, 1) := by decide +kernel
set_option maxRecDepth 20000 in
theorem dX0_setWeight_0 : decode cX0_setWeight 0 = .ok (.aload_n 0, 1) := by decide +kernel
set_option maxRecDepth 20000 in
theorem dX0_setWeight_1 : decode cX0_setWeight 1 = .ok (.iload_n 1, 1) := by decide +kernel
set_option maxRecDepth 20000 in
theorem dX0_setWeight_2 : decode cX0_setWeight 2 = .ok (.iconst 1, 1) := by decide +kernel
set_option maxRecDepth 20000 in
theorem dX0_setWeight_3 : decode cX0_setWeight 3 = .ok (.if_icmp .ne 8, 3) := by decide +kernel
set_option maxRecDepth 20000 in
theorem dX0_setWeight_6 : decode cX0_setWeight 6 = .ok (.bipush 15, 2) := by decide +kernel
set_option maxRecDepth 20000 in
theorem dX0_setWeight_8 : decode cX0_setWeight 8 = .ok (.goto 5, 3) := by decide +kernel
set_option maxRecDepth 20000 in
theorem dX0_setWeight_11 : decode cX0_setWeight 11 = .ok (.bipush 21, 2) := by decide +kernel
set_option maxRecDepth 20000 in
theorem dX0_setWeight_13 : decode cX0_setWeight 13 = .ok (.iload_n 2, 1) := by decide +kernel
set_option maxRecDepth 20000 in
theorem dX0_setWeight_14 : decode cX0_setWeight 14 = .ok (.iadd, 1) := by decide +kernel
set_option maxRecDepth 20000 in
theorem dX0_setWeight_15 : decode cX0_setWeight 15 = .ok (.iload_n 3, 1) := by decide +kernel
set_option maxRecDepth 20000 in
theorem dX0_setWeight_16 : decode cX0_setWeight 16 = .ok (.invokevirtual 32, 3) := by decide +kernel
set_option maxRecDepth 20000 in
theorem dX0_setWeight_19 : decode cX0_setWeight 19 = .ok (.return_, 1) := by decide +kernel
set_option maxRecDepth 20000 in
theorem dX0_wordSize_0 : decode cX0_wordSize 0 = .ok (.aload_n 0, 1) := by decide +kernel
set_option maxRecDepth 20000 in
theorem dX0_wordSize_1 : decode cX0_wordSize 1 = .ok (.bipush 25, 2) := by decide +kernel
set_option maxRecDepth 20000 in
theorem dX0_wordSize_3 : decode cX0_wordSize 3 = .ok (.iload_n 1, 1) := by decide +kernel
set_option maxRecDepth 20000 in
theorem dX0_wordSize_4 : decode cX0_wordSize 4 = .ok (.iadd, 1) := by decide +kernel
set_option maxRecDepth 20000 in
theorem dX0_wordSize_5 : decode cX0_wordSize 5 = .ok (.invokevirtual 25, 3) := by decide +kernel
set_option maxRecDepth 20000 in
theorem dX0_wordSize_8 : decode cX0_wordSize 8 = .ok (.ireturn, 1) := by decide +kernel
set_option maxRecDepth 20000 in
theorem dX0_letterAt_0 : decode cX0_letterAt 0 = .ok (.aload_n 0, 1) := by decide +kernel
set_option maxRecDepth 20000 in
theorem dX0_letterAt_1 : decode cX0_letterAt 1 = .ok (.bipush 29, 2) := by decide +kernel
set_option maxRecDepth 20000 in
theorem dX0_letterAt_3 : decode cX0_letterAt 3 = .ok (.iload_n 1, 1) := by decide +kernel
set_option maxRecDepth 20000 in
theorem dX0_letterAt_4 : decode cX0_letterAt 4 = .ok (.iconst 4, 1) := by decide +kernel
set_option maxRecDepth 20000 in
theorem dX0_letterAt_5 : decode cX0_letterAt 5 = .ok (.imul, 1) := by decide +kernel
set_option maxRecDepth 20000 in
theorem dX0_letterAt_6 : decode cX0_letterAt 6 = .ok (.iadd, 1) := by decide +kernel
set_option maxRecDepth 20000 in
theorem dX0_letterAt_7 : decode cX0_letterAt 7 = .ok (.iload_n 2, 1) := by decide +kernel
set_option maxRecDepth 20000 in
theorem dX0_letterAt_8 : decode cX0_letterAt 8 = .ok (.iadd, 1) := by decide +kernel
set_option maxRecDepth 20000 in
theorem dX0_letterAt_9 : decode cX0_letterAt 9 = .ok (.invokevirtual 25, 3) := by decide +kernel
set_option maxRecDepth 20000 in
theorem dX0_letterAt_12 : decode cX0_letterAt 12 = .ok (.ireturn, 1) := by decide +kernel
set_option maxRecDepth 20000 in
theorem dX0_numberAt_0 : decode cX0_numberAt 0 = .ok (.aload_n 0, 1) := by decide +kernel
set_option maxRecDepth 20000 in
theorem dX0_numberAt_1 : decode cX0_numberAt 1 = .ok (.bipush 45, 2) := by decide +kernel
set_option maxRecDepth 20000 in
theorem dX0_numberAt_3 : decode cX0_numberAt 3 = .ok (.iload_n 1, 1) := by decide +kernel
set_option maxRecDepth 20000 in
theorem dX0_numberAt_4 : decode cX0_numberAt 4 = .ok (.bipush 6, 2) := by decide +kernel
set_option maxRecDepth 20000 in
theorem dX0_numberAt_6 : decode cX0_numberAt 6 = .ok (.imul, 1) := by decide +kernel
set_option maxRecDepth 20000 in
theorem dX0_numberAt_7 : decode cX0_numberAt 7 = .ok (.iadd, 1) := by decide +kernel
set_option maxRecDepth 20000 in
theorem dX0_numberAt_8 : decode cX0_numberAt 8 = .ok (.iload_n 2, 1) := by decide +kernel
set_option maxRecDepth 20000 in
theorem dX0_numberAt_9 : decode cX0_numberAt 9 = .ok (.iadd, 1) := by decide +kernel
set_option maxRecDepth 20000 in
theorem dX0_numberAt_10 : decode cX0_numberAt 10 = .ok (.invokevirtual 25, 3) := by decide +kernel
set_option maxRecDepth 20000 in
theorem dX0_numberAt_13 : decode cX0_numberAt 13 = .ok (.ireturn, 1) := by decide +kernel
set_option maxRecDepth 20000 in
theorem dX0_setNumber_0 : decode cX0_setNumber 0 = .ok (.aload_n 0, 1) := by decide +kernel
set_option maxRecDepth 20000 in
theorem dX0_setNumber_1 : decode cX0_setNumber 1 = .ok (.bipush 45, 2) := by decide +kernel
set_option maxRecDepth 20000 in
theorem dX0_setNumber_3 : decode cX0_setNumber 3 = .ok (.iload_n 1, 1) := by decide +kernel
set_option maxRecDepth 20000 in
theorem dX0_setNumber_4 : decode cX0_setNumber 4 = .ok (.bipush 6, 2) := by decide +kernel
set_option maxRecDepth 20000 in
theorem dX0_setNumber_6 : decode cX0_setNumber 6 = .ok (.imul, 1) := by decide +kernel
set_option maxRecDepth 20000 in
theorem dX0_setNumber_7 : decode cX0_setNumber 7 = .ok (.iadd, 1) := by decide +kernel
set_option maxRecDepth 20000 in
theorem dX0_setNumber_8 : decode cX0_setNumber 8 = .ok (.iload_n 2, 1) := by decide +kernel
set_option maxRecDepth 20000 in
theorem dX0_setNumber_9 : decode cX0_setNumber 9 = .ok (.iadd, 1) := by decide +kernel
set_option maxRecDepth 20000 in
theorem dX0_setNumber_10 : decode cX0_setNumber 10 = .ok (.iload_n 3, 1) := by decide +kernel
set_option maxRecDepth 20000 in
theorem dX0_setNumber_11 : decode cX0_setNumber 11 = .ok (.invokevirtual 32, 3) := by decide +kernel
set_option maxRecDepth 20000 in
theorem dX0_setNumber_14 : decode cX0_setNumber 14 = .ok (.return_, 1) := by decide +kernel
set_option maxRecDepth 20000 in
theorem dX0_beginOf_0 : decode cX0_beginOf 0 = .ok (.iload_n 1, 1) := by decide +kernel
set_option maxRecDepth 20000 in
theorem dX0_beginOf_1 : decode cX0_beginOf 1 = .ok (.invokestatic 36, 3) := by decide +kernel
set_option maxRecDepth 20000 in
theorem dX0_beginOf_4 : decode cX0_beginOf 4 = .ok (.istore_n 2, 1) := by decide +kernel
set_option maxRecDepth 20000 in
theorem dX0_beginOf_5 : decode cX0_beginOf 5 = .ok (.iload_n 1, 1) := by decide +kernel
set_option maxRecDepth 20000 in
theorem dX0_beginOf_6 : decode cX0_beginOf 6 = .ok (.invokestatic 41, 3) := by decide +kernel
set_option maxRecDepth 20000 in
theorem dX0_beginOf_9 : decode cX0_beginOf 9 = .ok (.ifCond .eq 11, 3) := by decide +kernel
set_option maxRecDepth 20000 in
theorem dX0_beginOf_12 : decode cX0_beginOf 12 = .ok (.aload_n 0, 1) := by decide +kernel
set_option maxRecDepth 20000 in
theorem dX0_beginOf_13 : decode cX0_beginOf 13 = .ok (.iload_n 2, 1) := by decide +kernel
set_option maxRecDepth 20000 in
theorem dX0_beginOf_14 : decode cX0_beginOf 14 = .ok (.invokevirtual 45, 3) := by decide +kernel
set_option maxRecDepth 20000 in
theorem dX0_beginOf_17 : decode cX0_beginOf 17 = .ok (.goto 8, 3) := by decide +kernel
set_option maxRecDepth 20000 in
theorem dX0_beginOf_20 : decode cX0_beginOf 20 = .ok (.aload_n 0, 1) := by decide +kernel
set_option maxRecDepth 20000 in
theorem dX0_beginOf_21 : decode cX0_beginOf 21 = .ok (.iload_n 2, 1) := by decide +kernel
set_option maxRecDepth 20000 in
theorem dX0_beginOf_22 : decode cX0_beginOf 22 = .ok (.invokevirtual 48, 3) := by decide +kernel
set_option maxRecDepth 20000 in
theorem dX0_beginOf_25 : decode cX0_beginOf 25 = .ok (.ireturn, 1) := by decide +kernel
set_option maxRecDepth 20000 in
theorem dX0_endOf_0 : decode cX0_endOf 0 = .ok (.iload_n 1, 1) := by decide +kernel
set_option maxRecDepth 20000 in
theorem dX0_endOf_1 : decode cX0_endOf 1 = .ok (.invokestatic 36, 3) := by decide +kernel
set_option maxRecDepth 20000 in
theorem dX0_endOf_4 : decode cX0_endOf 4 = .ok (.istore_n 2, 1) := by decide +kernel
set_option maxRecDepth 20000 in
theorem dX0_endOf_5 : decode cX0_endOf 5 = .ok (.iload_n 1, 1) := by decide +kernel
set_option maxRecDepth 20000 in
theorem dX0_endOf_6 : decode cX0_endOf 6 = .ok (.invokestatic 41, 3) := by decide +kernel
set_option maxRecDepth 20000 in
theorem dX0_endOf_9 : decode cX0_endOf 9 = .ok (.ifCond .eq 11, 3) := by decide +kernel
set_option maxRecDepth 20000 in
theorem dX0_endOf_12 : decode cX0_endOf 12 = .ok (.aload_n 0, 1) := by decide +kernel
set_option maxRecDepth 20000 in
theorem dX0_endOf_13 : decode cX0_endOf 13 = .ok (.iload_n 2, 1) := by decide +kernel
set_option maxRecDepth 20000 in
theorem dX0_endOf_14 : decode cX0_endOf 14 = .ok (.invokevirtual 48, 3) := by decide +kernel
set_option maxRecDepth 20000 in
theorem dX0_endOf_17 : decode cX0_endOf 17 = .ok (.goto 8, 3) := by decide +kernel
set_option maxRecDepth 20000 in
theorem dX0_endOf_20 : decode cX0_endOf 20 = .ok (.aload_n 0, 1) := by decide +kernel
set_option maxRecDepth 20000 in
theorem dX0_endOf_21 : decode cX0_endOf 21 = .ok (.iload_n 2, 1) := by decide +kernel
set_option maxRecDepth 20000 in
theorem dX0_endOf_22 : decode cX0_endOf 22 = .ok (.invokevirtual 45, 3) := by decide +kernel
set_option maxRecDepth 20000 in
theorem dX0_endOf_25 : decode cX0_endOf 25 = .ok (.ireturn, 1) := by decide +kernel
set_option maxRecDepth 20000 in
theorem dX0_addEdge_0 : decode cX0_addEdge 0 = .ok (.aload_n 0, 1) := by decide +kernel
set_option maxRecDepth 20000 in
theorem dX0_addEdge_1 : decode cX0_addEdge 1 = .ok (.iconst 1, 1) := by decide +kernel
set_option maxRecDepth 20000 in
theorem dX0_addEdge_2 : decode cX0_addEdge 2 = .ok (.invokevirtual 21, 3) := by decide +kernel
set_option maxRecDepth 20000 in
theorem dX0_addEdge_5 : decode cX0_addEdge 5 = .ok (.istore 4, 2) := by decide +kernel
set_option maxRecDepth 20000 in
theorem dX0_addEdge_7 : decode cX0_addEdge 7 = .ok (.iload 4, 2) := by decide +kernel
set_option maxRecDepth 20000 in
theorem dX0_addEdge_9 : decode cX0_addEdge 9 = .ok (.bipush 6, 2) := by decide +kernel
set_option maxRecDepth 20000 in
theorem dX0_addEdge_11 : decode cX0_addEdge 11 = .ok (.if_icmp .lt 4, 3) := by decide +kernel
set_option maxRecDepth 20000 in
theorem dX0_addEdge_14 : decode cX0_addEdge 14 = .ok (.return_, 1) := by decide +kernel
set_option maxRecDepth 20000 in
theorem dX0_addEdge_15 : decode cX0_addEdge 15 = .ok (.aload_n 0, 1) := by decide +kernel
set_option maxRecDepth 20000 in
theorem dX0_addEdge_16 : decode cX0_addEdge 16 = .ok (.iconst 3, 1) := by decide +kernel
set_option maxRecDepth 20000 in
theorem dX0_addEdge_17 : decode cX0_addEdge 17 = .ok (.iload 4, 2) := by decide +kernel
set_option maxRecDepth 20000 in
theorem dX0_addEdge_19 : decode cX0_addEdge 19 = .ok (.iadd, 1) := by decide +kernel
set_option maxRecDepth 20000 in
theorem dX0_addEdge_20 : decode cX0_addEdge 20 = .ok (.iload_n 1, 1) := by decide +kernel
set_option maxRecDepth 20000 in
theorem dX0_addEdge_21 : decode cX0_addEdge 21 = .ok (.invokevirtual 32, 3) := by decide +kernel
set_option maxRecDepth 20000 in
theorem dX0_addEdge_24 : decode cX0_addEdge 24 = .ok (.aload_n 0, 1) := by decide +kernel
set_option maxRecDepth 20000 in
theorem dX0_addEdge_25 : decode cX0_addEdge 25 = .ok (.bipush 9, 2) := by decide +kernel
set_option maxRecDepth 20000 in
theorem dX0_addEdge_27 : decode cX0_addEdge 27 = .ok (.iload 4, 2) := by decide +kernel
set_option maxRecDepth 20000 in
theorem dX0_addEdge_29 : decode cX0_addEdge 29 = .ok (.iadd, 1) := by decide +kernel
set_option maxRecDepth 20000 in
theorem dX0_addEdge_30 : decode cX0_addEdge 30 = .ok (.iload_n 2, 1) := by decide +kernel
set_option maxRecDepth 20000 in
theorem dX0_addEdge_31 : decode cX0_addEdge 31 = .ok (.invokevirtual 32, 3) := by decide +kernel
set_option maxRecDepth 20000 in
theorem dX0_addEdge_34 : decode cX0_addEdge 34 = .ok (.aload_n 0, 1) := by decide +kernel
set_option maxRecDepth 20000 in
theorem dX0_addEdge_35 : decode cX0_addEdge 35 = .ok (.iconst 1, 1) := by decide +kernel
set_option maxRecDepth 20000 in
theorem dX0_addEdge_36 : decode cX0_addEdge 36 = .ok (.iload 4, 2) := by decide +kernel
set_option maxRecDepth 20000 in
theorem dX0_addEdge_38 : decode cX0_addEdge 38 = .ok (.iload_n 3, 1) := by decide +kernel
set_option maxRecDepth 20000 in
theorem dX0_addEdge_39 : decode cX0_addEdge 39 = .ok (.invokevirtual 51, 3) := by decide +kernel
set_option maxRecDepth 20000 in
theorem dX0_addEdge_42 : decode cX0_addEdge 42 = .ok (.iconst 0, 1) := by decide +kernel
set_option maxRecDepth 20000 in
theorem dX0_addEdge_43 : decode cX0_addEdge 43 = .ok (.istore 5, 2) := by decide +kernel
set_option maxRecDepth 20000 in
theorem dX0_addEdge_45 : decode cX0_addEdge 45 = .ok (.iload 5, 2) := by decide +kernel
set_option maxRecDepth 20000 in
theorem dX0_addEdge_47 : decode cX0_addEdge 47 = .ok (.iconst 3, 1) := by decide +kernel
set_option maxRecDepth 20000 in
theorem dX0_addEdge_48 : decode cX0_addEdge 48 = .ok (.if_icmp .ge 18, 3) := by decide +kernel
set_option maxRecDepth 20000 in
theorem dX0_addEdge_51 : decode cX0_addEdge 51 = .ok (.aload_n 0, 1) := by decide +kernel
set_option maxRecDepth 20000 in
theorem dX0_addEdge_52 : decode cX0_addEdge 52 = .ok (.iload 5, 2) := by decide +kernel
set_option maxRecDepth 20000 in
theorem dX0_addEdge_54 : decode cX0_addEdge 54 = .ok (.iload 4, 2) := by decide +kernel
set_option maxRecDepth 20000 in
theorem dX0_addEdge_56 : decode cX0_addEdge 56 = .ok (.iconst 0, 1) := by decide +kernel
set_option maxRecDepth 20000 in
theorem dX0_addEdge_57 : decode cX0_addEdge 57 = .ok (.invokevirtual 55, 3) := by decide +kernel
set_option maxRecDepth 20000 in
theorem dX0_addEdge_60 : decode cX0_addEdge 60 = .ok (.iinc 5 1, 3) := by decide +kernel
set_option maxRecDepth 20000 in
theorem dX0_addEdge_63 : decode cX0_addEdge 63 = .ok (.goto (-18), 3) := by decide +kernel
set_option maxRecDepth 20000 in
theorem dX0_addEdge_66 : decode cX0_addEdge 66 = .ok (.aload_n 0, 1) := by decide +kernel
set_option maxRecDepth 20000 in
theorem dX0_addEdge_67 : decode cX0_addEdge 67 = .ok (.iconst 1, 1) := by decide +kernel
set_option maxRecDepth 20000 in
theorem dX0_addEdge_68 : decode cX0_addEdge 68 = .ok (.iload 4, 2) := by decide +kernel
set_option maxRecDepth 20000 in
theorem dX0_addEdge_70 : decode cX0_addEdge 70 = .ok (.iconst 1, 1) := by decide +kernel
set_option maxRecDepth 20000 in
theorem dX0_addEdge_71 : decode cX0_addEdge 71 = .ok (.iadd, 1) := by decide +kernel
set_option maxRecDepth 20000 in
theorem dX0_addEdge_72 : decode cX0_addEdge 72 = .ok (.invokevirtual 32, 3) := by decide +kernel
set_option maxRecDepth 20000 in
theorem dX0_addEdge_75 : decode cX0_addEdge 75 = .ok (.return_, 1) := by decide +kernel
set_option maxRecDepth 20000 in
theorem dX0_addFace_0 : decode cX0_addFace 0 = .ok (.aload_n 0, 1) := by decide +kernel
set_option maxRecDepth 20000 in
theorem dX0_addFace_1 : decode cX0_addFace 1 = .ok (.iconst 2, 1) := by decide +kernel
set_option maxRecDepth 20000 in
theorem dX0_addFace_2 : decode cX0_addFace 2 = .ok (.invokevirtual 21, 3) := by decide +kernel
set_option maxRecDepth 20000 in
theorem dX0_addFace_5 : decode cX0_addFace 5 = .ok (.istore_n 3, 1) := by decide +kernel
set_option maxRecDepth 20000 in
theorem dX0_addFace_6 : decode cX0_addFace 6 = .ok (.iload_n 3, 1) := by decide +kernel
set_option maxRecDepth 20000 in
theorem dX0_addFace_7 : decode cX0_addFace 7 = .ok (.iconst 4, 1) := by decide +kernel
set_option maxRecDepth 20000 in
theorem dX0_addFace_8 : decode cX0_addFace 8 = .ok (.if_icmp .lt 4, 3) := by decide +kernel
set_option maxRecDepth 20000 in
theorem dX0_addFace_11 : decode cX0_addFace 11 = .ok (.return_, 1) := by decide +kernel
set_option maxRecDepth 20000 in
theorem dX0_addFace_12 : decode cX0_addFace 12 = .ok (.aload_n 0, 1) := by decide +kernel
set_option maxRecDepth 20000 in
theorem dX0_addFace_13 : decode cX0_addFace 13 = .ok (.iconst 2, 1) := by decide +kernel
set_option maxRecDepth 20000 in
theorem dX0_addFace_14 : decode cX0_addFace 14 = .ok (.iload_n 3, 1) := by decide +kernel
set_option maxRecDepth 20000 in
theorem dX0_addFace_15 : decode cX0_addFace 15 = .ok (.iload_n 2, 1) := by decide +kernel
set_option maxRecDepth 20000 in
theorem dX0_addFace_16 : decode cX0_addFace 16 = .ok (.invokevirtual 51, 3) := by decide +kernel
set_option maxRecDepth 20000 in
theorem dX0_addFace_19 : decode cX0_addFace 19 = .ok (.aload_n 0, 1) := by decide +kernel
set_option maxRecDepth 20000 in
theorem dX0_addFace_20 : decode cX0_addFace 20 = .ok (.bipush 25, 2) := by decide +kernel
set_option maxRecDepth 20000 in
theorem dX0_addFace_22 : decode cX0_addFace 22 = .ok (.iload_n 3, 1) := by decide +kernel
set_option maxRecDepth 20000 in
theorem dX0_addFace_23 : decode cX0_addFace 23 = .ok (.iadd, 1) := by decide +kernel
set_option maxRecDepth 20000 in
theorem dX0_addFace_24 : decode cX0_addFace 24 = .ok (.aload_n 1, 1) := by decide +kernel
set_option maxRecDepth 20000 in
theorem dX0_addFace_25 : decode cX0_addFace 25 = .ok (.invokevirtual 58, 3) := by decide +kernel
set_option maxRecDepth 20000 in
theorem dX0_addFace_28 : decode cX0_addFace 28 = .ok (.invokevirtual 32, 3) := by decide +kernel
set_option maxRecDepth 20000 in
theorem dX0_addFace_31 : decode cX0_addFace 31 = .ok (.iconst 0, 1) := by decide +kernel
set_option maxRecDepth 20000 in
theorem dX0_addFace_32 : decode cX0_addFace 32 = .ok (.istore 4, 2) := by decide +kernel
set_option maxRecDepth 20000 in
theorem dX0_addFace_34 : decode cX0_addFace 34 = .ok (.iload 4, 2) := by decide +kernel
set_option maxRecDepth 20000 in
theorem dX0_addFace_36 : decode cX0_addFace 36 = .ok (.iconst 4, 1) := by decide +kernel
set_option maxRecDepth 20000 in
theorem dX0_addFace_37 : decode cX0_addFace 37 = .ok (.if_icmp .ge 28, 3) := by decide +kernel
set_option maxRecDepth 20000 in
theorem dX0_addFace_40 : decode cX0_addFace 40 = .ok (.aload_n 0, 1) := by decide +kernel
set_option maxRecDepth 20000 in
theorem dX0_addFace_41 : decode cX0_addFace 41 = .ok (.bipush 29, 2) := by decide +kernel
set_option maxRecDepth 20000 in
theorem dX0_addFace_43 : decode cX0_addFace 43 = .ok (.iload_n 3, 1) := by decide +kernel
set_option maxRecDepth 20000 in
theorem dX0_addFace_44 : decode cX0_addFace 44 = .ok (.iconst 4, 1) := by decide +kernel
set_option maxRecDepth 20000 in
theorem dX0_addFace_45 : decode cX0_addFace 45 = .ok (.imul, 1) := by decide +kernel
set_option maxRecDepth 20000 in
theorem dX0_addFace_46 : decode cX0_addFace 46 = .ok (.iadd, 1) := by decide +kernel
set_option maxRecDepth 20000 in
theorem dX0_addFace_47 : decode cX0_addFace 47 = .ok (.iload 4, 2) := by decide +kernel
set_option maxRecDepth 20000 in
theorem dX0_addFace_49 : decode cX0_addFace 49 = .ok (.iadd, 1) := by decide +kernel
set_option maxRecDepth 20000 in
theorem dX0_addFace_50 : decode cX0_addFace 50 = .ok (.aload_n 1, 1) := by decide +kernel
set_option maxRecDepth 20000 in
theorem dX0_addFace_51 : decode cX0_addFace 51 = .ok (.iload 4, 2) := by decide +kernel
set_option maxRecDepth 20000 in
theorem dX0_addFace_53 : decode cX0_addFace 53 = .ok (.invokevirtual 62, 3) := by decide +kernel
set_option maxRecDepth 20000 in
theorem dX0_addFace_56 : decode cX0_addFace 56 = .ok (.invokevirtual 32, 3) := by decide +kernel
set_option maxRecDepth 20000 in
theorem dX0_addFace_59 : decode cX0_addFace 59 = .ok (.iinc 4 1, 3) := by decide +kernel
set_option maxRecDepth 20000 in
theorem dX0_addFace_62 : decode cX0_addFace 62 = .ok (.goto (-28), 3) := by decide +kernel
set_option maxRecDepth 20000 in
theorem dX0_addFace_65 : decode cX0_addFace 65 = .ok (.aload_n 0, 1) := by decide +kernel
set_option maxRecDepth 20000 in
theorem dX0_addFace_66 : decode cX0_addFace 66 = .ok (.iconst 2, 1) := by decide +kernel
set_option maxRecDepth 20000 in
theorem dX0_addFace_67 : decode cX0_addFace 67 = .ok (.iload_n 3, 1) := by decide +kernel
set_option maxRecDepth 20000 in
theorem dX0_addFace_68 : decode cX0_addFace 68 = .ok (.iconst 1, 1) := by decide +kernel
set_option maxRecDepth 20000 in
theorem dX0_addFace_69 : decode cX0_addFace 69 = .ok (.iadd, 1) := by decide +kernel
set_option maxRecDepth 20000 in
theorem dX0_addFace_70 : decode cX0_addFace 70 = .ok (.invokevirtual 32, 3) := by decide +kernel
set_option maxRecDepth 20000 in
theorem dX0_addFace_73 : decode cX0_addFace 73 = .ok (.return_, 1) := by decide +kernel
set_option maxRecDepth 20000 in
theorem dX0_isSewn_0 : decode cX0_isSewn 0 = .ok (.iconst 0, 1) := by decide +kernel
set_option maxRecDepth 20000 in
theorem dX0_isSewn_1 : decode cX0_isSewn 1 = .ok (.istore_n 2, 1) := by decide +kernel
set_option maxRecDepth 20000 in
theorem dX0_isSewn_2 : decode cX0_isSewn 2 = .ok (.iload_n 2, 1) := by decide +kernel
set_option maxRecDepth 20000 in
theorem dX0_isSewn_3 : decode cX0_isSewn 3 = .ok (.aload_n 0, 1) := by decide +kernel
set_option maxRecDepth 20000 in
theorem dX0_isSewn_4 : decode cX0_isSewn 4 = .ok (.iconst 2, 1) := by decide +kernel
set_option maxRecDepth 20000 in
theorem dX0_isSewn_5 : decode cX0_isSewn 5 = .ok (.invokevirtual 21, 3) := by decide +kernel
set_option maxRecDepth 20000 in
theorem dX0_isSewn_8 : decode cX0_isSewn 8 = .ok (.if_icmp .ge 41, 3) := by decide +kernel
set_option maxRecDepth 20000 in
theorem dX0_isSewn_11 : decode cX0_isSewn 11 = .ok (.iconst 0, 1) := by decide +kernel
set_option maxRecDepth 20000 in
theorem dX0_isSewn_12 : decode cX0_isSewn 12 = .ok (.istore_n 3, 1) := by decide +kernel
set_option maxRecDepth 20000 in
theorem dX0_isSewn_13 : decode cX0_isSewn 13 = .ok (.iload_n 3, 1) := by decide +kernel
set_option maxRecDepth 20000 in
theorem dX0_isSewn_14 : decode cX0_isSewn 14 = .ok (.aload_n 0, 1) := by decide +kernel
set_option maxRecDepth 20000 in
theorem dX0_isSewn_15 : decode cX0_isSewn 15 = .ok (.iload_n 2, 1) := by decide +kernel
set_option maxRecDepth 20000 in
theorem dX0_isSewn_16 : decode cX0_isSewn 16 = .ok (.invokevirtual 65, 3) := by decide +kernel
set_option maxRecDepth 20000 in
theorem dX0_isSewn_19 : decode cX0_isSewn 19 = .ok (.if_icmp .ge 24, 3) := by decide +kernel
set_option maxRecDepth 20000 in
theorem dX0_isSewn_22 : decode cX0_isSewn 22 = .ok (.aload_n 0, 1) := by decide +kernel
set_option maxRecDepth 20000 in
theorem dX0_isSewn_23 : decode cX0_isSewn 23 = .ok (.iload_n 2, 1) := by decide +kernel
set_option maxRecDepth 20000 in
theorem dX0_isSewn_24 : decode cX0_isSewn 24 = .ok (.iload_n 3, 1) := by decide +kernel
set_option maxRecDepth 20000 in
theorem dX0_isSewn_25 : decode cX0_isSewn 25 = .ok (.invokevirtual 68, 3) := by decide +kernel
set_option maxRecDepth 20000 in
theorem dX0_isSewn_28 : decode cX0_isSewn 28 = .ok (.invokestatic 36, 3) := by decide +kernel
set_option maxRecDepth 20000 in
theorem dX0_isSewn_31 : decode cX0_isSewn 31 = .ok (.iload_n 1, 1) := by decide +kernel
set_option maxRecDepth 20000 in
theorem dX0_isSewn_32 : decode cX0_isSewn 32 = .ok (.if_icmp .ne 5, 3) := by decide +kernel
set_option maxRecDepth 20000 in
theorem dX0_isSewn_35 : decode cX0_isSewn 35 = .ok (.iconst 1, 1) := by decide +kernel
set_option maxRecDepth 20000 in
theorem dX0_isSewn_36 : decode cX0_isSewn 36 = .ok (.ireturn, 1) := by decide +kernel
set_option maxRecDepth 20000 in
theorem dX0_isSewn_37 : decode cX0_isSewn 37 = .ok (.iinc 3 1, 3) := by decide +kernel
set_option maxRecDepth 20000 in
theorem dX0_isSewn_40 : decode cX0_isSewn 40 = .ok (.goto (-27), 3) := by decide +kernel
set_option maxRecDepth 20000 in
theorem dX0_isSewn_43 : decode cX0_isSewn 43 = .ok (.iinc 2 1, 3) := by decide +kernel
set_option maxRecDepth 20000 in
theorem dX0_isSewn_46 : decode cX0_isSewn 46 = .ok (.goto (-44), 3) := by decide +kernel
set_option maxRecDepth 20000 in
theorem dX0_isSewn_49 : decode cX0_isSewn 49 = .ok (.iconst 0, 1) := by decide +kernel
set_option maxRecDepth 20000 in
theorem dX0_isSewn_50 : decode cX0_isSewn 50 = .ok (.ireturn, 1) := by decide +kernel
set_option maxRecDepth 20000 in
theorem dX0_removeEdge_0 : decode cX0_removeEdge 0 = .ok (.aload_n 0, 1) := by decide +kernel
set_option maxRecDepth 20000 in
theorem dX0_removeEdge_1 : decode cX0_removeEdge 1 = .ok (.iconst 1, 1) := by decide +kernel
set_option maxRecDepth 20000 in
theorem dX0_removeEdge_2 : decode cX0_removeEdge 2 = .ok (.invokevirtual 21, 3) := by decide +kernel
set_option maxRecDepth 20000 in
theorem dX0_removeEdge_5 : decode cX0_removeEdge 5 = .ok (.iconst 1, 1) := by decide +kernel
set_option maxRecDepth 20000 in
theorem dX0_removeEdge_6 : decode cX0_removeEdge 6 = .ok (.isub, 1) := by decide +kernel
set_option maxRecDepth 20000 in
theorem dX0_removeEdge_7 : decode cX0_removeEdge 7 = .ok (.istore_n 2, 1) := by decide +kernel
set_option maxRecDepth 20000 in
theorem dX0_removeEdge_8 : decode cX0_removeEdge 8 = .ok (.iload_n 1, 1) := by decide +kernel
set_option maxRecDepth 20000 in
theorem dX0_removeEdge_9 : decode cX0_removeEdge 9 = .ok (.istore_n 3, 1) := by decide +kernel
set_option maxRecDepth 20000 in
theorem dX0_removeEdge_10 : decode cX0_removeEdge 10 = .ok (.iload_n 3, 1) := by decide +kernel
set_option maxRecDepth 20000 in
theorem dX0_removeEdge_11 : decode cX0_removeEdge 11 = .ok (.iload_n 2, 1) := by decide +kernel
set_option maxRecDepth 20000 in
theorem dX0_removeEdge_12 : decode cX0_removeEdge 12 = .ok (.if_icmp .ge 83, 3) := by decide +kernel
set_option maxRecDepth 20000 in
theorem dX0_removeEdge_15 : decode cX0_removeEdge 15 = .ok (.aload_n 0, 1) := by decide +kernel
set_option maxRecDepth 20000 in
theorem dX0_removeEdge_16 : decode cX0_removeEdge 16 = .ok (.iconst 3, 1) := by decide +kernel
set_option maxRecDepth 20000 in
theorem dX0_removeEdge_17 : decode cX0_removeEdge 17 = .ok (.iload_n 3, 1) := by decide +kernel
set_option maxRecDepth 20000 in
theorem dX0_removeEdge_18 : decode cX0_removeEdge 18 = .ok (.iadd, 1) := by decide +kernel
set_option maxRecDepth 20000 in
theorem dX0_removeEdge_19 : decode cX0_removeEdge 19 = .ok (.aload_n 0, 1) := by decide +kernel
set_option maxRecDepth 20000 in
theorem dX0_removeEdge_20 : decode cX0_removeEdge 20 = .ok (.iload_n 3, 1) := by decide +kernel
set_option maxRecDepth 20000 in
theorem dX0_removeEdge_21 : decode cX0_removeEdge 21 = .ok (.iconst 1, 1) := by decide +kernel
set_option maxRecDepth 20000 in
theorem dX0_removeEdge_22 : decode cX0_removeEdge 22 = .ok (.iadd, 1) := by decide +kernel
set_option maxRecDepth 20000 in
theorem dX0_removeEdge_23 : decode cX0_removeEdge 23 = .ok (.invokevirtual 48, 3) := by decide +kernel
set_option maxRecDepth 20000 in
theorem dX0_removeEdge_26 : decode cX0_removeEdge 26 = .ok (.invokevirtual 32, 3) := by decide +kernel
set_option maxRecDepth 20000 in
theorem dX0_removeEdge_29 : decode cX0_removeEdge 29 = .ok (.aload_n 0, 1) := by decide +kernel
set_option maxRecDepth 20000 in
theorem dX0_removeEdge_30 : decode cX0_removeEdge 30 = .ok (.bipush 9, 2) := by decide +kernel
set_option maxRecDepth 20000 in
theorem dX0_removeEdge_32 : decode cX0_removeEdge 32 = .ok (.iload_n 3, 1) := by decide +kernel
set_option maxRecDepth 20000 in
theorem dX0_removeEdge_33 : decode cX0_removeEdge 33 = .ok (.iadd, 1) := by decide +kernel
set_option maxRecDepth 20000 in
theorem dX0_removeEdge_34 : decode cX0_removeEdge 34 = .ok (.aload_n 0, 1) := by decide +kernel
set_option maxRecDepth 20000 in
theorem dX0_removeEdge_35 : decode cX0_removeEdge 35 = .ok (.iload_n 3, 1) := by decide +kernel
set_option maxRecDepth 20000 in
theorem dX0_removeEdge_36 : decode cX0_removeEdge 36 = .ok (.iconst 1, 1) := by decide +kernel
set_option maxRecDepth 20000 in
theorem dX0_removeEdge_37 : decode cX0_removeEdge 37 = .ok (.iadd, 1) := by decide +kernel
set_option maxRecDepth 20000 in
theorem dX0_removeEdge_38 : decode cX0_removeEdge 38 = .ok (.invokevirtual 45, 3) := by decide +kernel
set_option maxRecDepth 20000 in
theorem dX0_removeEdge_41 : decode cX0_removeEdge 41 = .ok (.invokevirtual 32, 3) := by decide +kernel
set_option maxRecDepth 20000 in
theorem dX0_removeEdge_44 : decode cX0_removeEdge 44 = .ok (.aload_n 0, 1) := by decide +kernel
set_option maxRecDepth 20000 in
theorem dX0_removeEdge_45 : decode cX0_removeEdge 45 = .ok (.iconst 1, 1) := by decide +kernel
set_option maxRecDepth 20000 in
theorem dX0_removeEdge_46 : decode cX0_removeEdge 46 = .ok (.iload_n 3, 1) := by decide +kernel
set_option maxRecDepth 20000 in
theorem dX0_removeEdge_47 : decode cX0_removeEdge 47 = .ok (.aload_n 0, 1) := by decide +kernel
set_option maxRecDepth 20000 in
theorem dX0_removeEdge_48 : decode cX0_removeEdge 48 = .ok (.iconst 1, 1) := by decide +kernel
set_option maxRecDepth 20000 in
theorem dX0_removeEdge_49 : decode cX0_removeEdge 49 = .ok (.iload_n 3, 1) := by decide +kernel
set_option maxRecDepth 20000 in
theorem dX0_removeEdge_50 : decode cX0_removeEdge 50 = .ok (.iconst 1, 1) := by decide +kernel
set_option maxRecDepth 20000 in
theorem dX0_removeEdge_51 : decode cX0_removeEdge 51 = .ok (.iadd, 1) := by decide +kernel
set_option maxRecDepth 20000 in
theorem dX0_removeEdge_52 : decode cX0_removeEdge 52 = .ok (.invokevirtual 71, 3) := by decide +kernel
set_option maxRecDepth 20000 in
theorem dX0_removeEdge_55 : decode cX0_removeEdge 55 = .ok (.invokevirtual 51, 3) := by decide +kernel
set_option maxRecDepth 20000 in
theorem dX0_removeEdge_58 : decode cX0_removeEdge 58 = .ok (.iconst 0, 1) := by decide +kernel
set_option maxRecDepth 20000 in
theorem dX0_removeEdge_59 : decode cX0_removeEdge 59 = .ok (.istore 4, 2) := by decide +kernel
set_option maxRecDepth 20000 in
theorem dX0_removeEdge_61 : decode cX0_removeEdge 61 = .ok (.iload 4, 2) := by decide +kernel
set_option maxRecDepth 20000 in
theorem dX0_removeEdge_63 : decode cX0_removeEdge 63 = .ok (.iconst 3, 1) := by decide +kernel
set_option maxRecDepth 20000 in
theorem dX0_removeEdge_64 : decode cX0_removeEdge 64 = .ok (.if_icmp .ge 25, 3) := by decide +kernel
set_option maxRecDepth 20000 in
theorem dX0_removeEdge_67 : decode cX0_removeEdge 67 = .ok (.aload_n 0, 1) := by decide +kernel
set_option maxRecDepth 20000 in
theorem dX0_removeEdge_68 : decode cX0_removeEdge 68 = .ok (.iload 4, 2) := by decide +kernel
set_option maxRecDepth 20000 in
theorem dX0_removeEdge_70 : decode cX0_removeEdge 70 = .ok (.iload_n 3, 1) := by decide +kernel
set_option maxRecDepth 20000 in
theorem dX0_removeEdge_71 : decode cX0_removeEdge 71 = .ok (.aload_n 0, 1) := by decide +kernel
set_option maxRecDepth 20000 in
theorem dX0_removeEdge_72 : decode cX0_removeEdge 72 = .ok (.iload 4, 2) := by decide +kernel
set_option maxRecDepth 20000 in
theorem dX0_removeEdge_74 : decode cX0_removeEdge 74 = .ok (.iload_n 3, 1) := by decide +kernel
set_option maxRecDepth 20000 in
theorem dX0_removeEdge_75 : decode cX0_removeEdge 75 = .ok (.iconst 1, 1) := by decide +kernel
set_option maxRecDepth 20000 in
theorem dX0_removeEdge_76 : decode cX0_removeEdge 76 = .ok (.iadd, 1) := by decide +kernel
set_option maxRecDepth 20000 in
theorem dX0_removeEdge_77 : decode cX0_removeEdge 77 = .ok (.invokevirtual 74, 3) := by decide +kernel
set_option maxRecDepth 20000 in
theorem dX0_removeEdge_80 : decode cX0_removeEdge 80 = .ok (.invokevirtual 55, 3) := by decide +kernel
set_option maxRecDepth 20000 in
theorem dX0_removeEdge_83 : decode cX0_removeEdge 83 = .ok (.iinc 4 1, 3) := by decide +kernel
set_option maxRecDepth 20000 in
theorem dX0_removeEdge_86 : decode cX0_removeEdge 86 = .ok (.goto (-25), 3) := by decide +kernel
set_option maxRecDepth 20000 in
theorem dX0_removeEdge_89 : decode cX0_removeEdge 89 = .ok (.iinc 3 1, 3) := by decide +kernel
set_option maxRecDepth 20000 in
theorem dX0_removeEdge_92 : decode cX0_removeEdge 92 = .ok (.goto (-82), 3) := by decide +kernel
set_option maxRecDepth 20000 in
theorem dX0_removeEdge_95 : decode cX0_removeEdge 95 = .ok (.aload_n 0, 1) := by decide +kernel
set_option maxRecDepth 20000 in
theorem dX0_removeEdge_96 : decode cX0_removeEdge 96 = .ok (.iconst 1, 1) := by decide +kernel
set_option maxRecDepth 20000 in
theorem dX0_removeEdge_97 : decode cX0_removeEdge 97 = .ok (.iload_n 2, 1) := by decide +kernel
set_option maxRecDepth 20000 in
theorem dX0_removeEdge_98 : decode cX0_removeEdge 98 = .ok (.invokevirtual 32, 3) := by decide +kernel
set_option maxRecDepth 20000 in
theorem dX0_removeEdge_101 : decode cX0_removeEdge 101 = .ok (.aload_n 0, 1) := by decide +kernel
set_option maxRecDepth 20000 in
theorem dX0_removeEdge_102 : decode cX0_removeEdge 102 = .ok (.iload_n 1, 1) := by decide +kernel
set_option maxRecDepth 20000 in
theorem dX0_removeEdge_103 : decode cX0_removeEdge 103 = .ok (.invokevirtual 77, 3) := by decide +kernel
set_option maxRecDepth 20000 in
theorem dX0_removeEdge_106 : decode cX0_removeEdge 106 = .ok (.return_, 1) := by decide +kernel
set_option maxRecDepth 20000 in
theorem dX0_lowerLettersBehind_0 : decode cX0_lowerLettersBehind 0 = .ok (.iconst 0, 1) := by decide +kernel
set_option maxRecDepth 20000 in
theorem dX0_lowerLettersBehind_1 : decode cX0_lowerLettersBehind 1 = .ok (.istore_n 2, 1) := by decide +kernel
set_option maxRecDepth 20000 in
theorem dX0_lowerLettersBehind_2 : decode cX0_lowerLettersBehind 2 = .ok (.iload_n 2, 1) := by decide +kernel
set_option maxRecDepth 20000 in
theorem dX0_lowerLettersBehind_3 : decode cX0_lowerLettersBehind 3 = .ok (.aload_n 0, 1) := by decide +kernel
set_option maxRecDepth 20000 in
theorem dX0_lowerLettersBehind_4 : decode cX0_lowerLettersBehind 4 = .ok (.iconst 2, 1) := by decide +kernel
set_option maxRecDepth 20000 in
theorem dX0_lowerLettersBehind_5 : decode cX0_lowerLettersBehind 5 = .ok (.invokevirtual 21, 3) := by decide +kernel
set_option maxRecDepth 20000 in
theorem dX0_lowerLettersBehind_8 : decode cX0_lowerLettersBehind 8 = .ok (.if_icmp .ge 59, 3) := by decide +kernel
set_option maxRecDepth 20000 in
theorem dX0_lowerLettersBehind_11 : decode cX0_lowerLettersBehind 11 = .ok (.iconst 0, 1) := by decide +kernel
set_option maxRecDepth 20000 in
theorem dX0_lowerLettersBehind_12 : decode cX0_lowerLettersBehind 12 = .ok (.istore_n 3, 1) := by decide +kernel
set_option maxRecDepth 20000 in
theorem dX0_lowerLettersBehind_13 : decode cX0_lowerLettersBehind 13 = .ok (.iload_n 3, 1) := by decide +kernel
set_option maxRecDepth 20000 in
theorem dX0_lowerLettersBehind_14 : decode cX0_lowerLettersBehind 14 = .ok (.aload_n 0, 1) := by decide +kernel
set_option maxRecDepth 20000 in
theorem dX0_lowerLettersBehind_15 : decode cX0_lowerLettersBehind 15 = .ok (.iload_n 2, 1) := by decide +kernel
set_option maxRecDepth 20000 in
theorem dX0_lowerLettersBehind_16 : decode cX0_lowerLettersBehind 16 = .ok (.invokevirtual 65, 3) := by decide +kernel
set_option maxRecDepth 20000 in
theorem dX0_lowerLettersBehind_19 : decode cX0_lowerLettersBehind 19 = .ok (.if_icmp .ge 42, 3) := by decide +kernel
set_option maxRecDepth 20000 in
theorem dX0_lowerLettersBehind_22 : decode cX0_lowerLettersBehind 22 = .ok (.aload_n 0, 1) := by decide +kernel
set_option maxRecDepth 20000 in
theorem dX0_lowerLettersBehind_23 : decode cX0_lowerLettersBehind 23 = .ok (.iload_n 2, 1) := by decide +kernel
set_option maxRecDepth 20000 in
theorem dX0_lowerLettersBehind_24 : decode cX0_lowerLettersBehind 24 = .ok (.iload_n 3, 1) := by decide +kernel
set_option maxRecDepth 20000 in
theorem dX0_lowerLettersBehind_25 : decode cX0_lowerLettersBehind 25 = .ok (.invokevirtual 68, 3) := by decide +kernel
set_option maxRecDepth 20000 in
theorem dX0_lowerLettersBehind_28 : decode cX0_lowerLettersBehind 28 = .ok (.istore 4, 2) := by decide +kernel
set_option maxRecDepth 20000 in
theorem dX0_lowerLettersBehind_30 : decode cX0_lowerLettersBehind 30 = .ok (.iload 4, 2) := by decide +kernel
set_option maxRecDepth 20000 in
theorem dX0_lowerLettersBehind_32 : decode cX0_lowerLettersBehind 32 = .ok (.invokestatic 36, 3) := by decide +kernel
set_option maxRecDepth 20000 in
theorem dX0_lowerLettersBehind_35 : decode cX0_lowerLettersBehind 35 = .ok (.iload_n 1, 1) := by decide +kernel
set_option maxRecDepth 20000 in
theorem dX0_lowerLettersBehind_36 : decode cX0_lowerLettersBehind 36 = .ok (.if_icmp .le 19, 3) := by decide +kernel
set_option maxRecDepth 20000 in
theorem dX0_lowerLettersBehind_39 : decode cX0_lowerLettersBehind 39 = .ok (.aload_n 0, 1) := by decide +kernel
set_option maxRecDepth 20000 in
theorem dX0_lowerLettersBehind_40 : decode cX0_lowerLettersBehind 40 = .ok (.bipush 29, 2) := by decide +kernel
set_option maxRecDepth 20000 in
theorem dX0_lowerLettersBehind_42 : decode cX0_lowerLettersBehind 42 = .ok (.iload_n 2, 1) := by decide +kernel
set_option maxRecDepth 20000 in
theorem dX0_lowerLettersBehind_43 : decode cX0_lowerLettersBehind 43 = .ok (.iconst 4, 1) := by decide +kernel
set_option maxRecDepth 20000 in
theorem dX0_lowerLettersBehind_44 : decode cX0_lowerLettersBehind 44 = .ok (.imul, 1) := by decide +kernel
set_option maxRecDepth 20000 in
theorem dX0_lowerLettersBehind_45 : decode cX0_lowerLettersBehind 45 = .ok (.iadd, 1) := by decide +kernel
set_option maxRecDepth 20000 in
theorem dX0_lowerLettersBehind_46 : decode cX0_lowerLettersBehind 46 = .ok (.iload_n 3, 1) := by decide +kernel
set_option maxRecDepth 20000 in
theorem dX0_lowerLettersBehind_47 : decode cX0_lowerLettersBehind 47 = .ok (.iadd, 1) := by decide +kernel
set_option maxRecDepth 20000 in
theorem dX0_lowerLettersBehind_48 : decode cX0_lowerLettersBehind 48 = .ok (.iload 4, 2) := by decide +kernel
set_option maxRecDepth 20000 in
theorem dX0_lowerLettersBehind_50 : decode cX0_lowerLettersBehind 50 = .ok (.iconst 1, 1) := by decide +kernel
set_option maxRecDepth 20000 in
theorem dX0_lowerLettersBehind_51 : decode cX0_lowerLettersBehind 51 = .ok (.isub, 1) := by decide +kernel
set_option maxRecDepth 20000 in
theorem dX0_lowerLettersBehind_52 : decode cX0_lowerLettersBehind 52 = .ok (.invokevirtual 32, 3) := by decide +kernel
set_option maxRecDepth 20000 in
theorem dX0_lowerLettersBehind_55 : decode cX0_lowerLettersBehind 55 = .ok (.iinc 3 1, 3) := by decide +kernel
set_option maxRecDepth 20000 in
theorem dX0_lowerLettersBehind_58 : decode cX0_lowerLettersBehind 58 = .ok (.goto (-45), 3) := by decide +kernel
set_option maxRecDepth 20000 in
theorem dX0_lowerLettersBehind_61 : decode cX0_lowerLettersBehind 61 = .ok (.iinc 2 1, 3) := by decide +kernel
set_option maxRecDepth 20000 in
theorem dX0_lowerLettersBehind_64 : decode cX0_lowerLettersBehind 64 = .ok (.goto (-62), 3) := by decide +kernel
set_option maxRecDepth 20000 in
theorem dX0_lowerLettersBehind_67 : decode cX0_lowerLettersBehind 67 = .ok (.return_, 1) := by decide +kernel
set_option maxRecDepth 20000 in
theorem dX0_removeFace_0 : decode cX0_removeFace 0 = .ok (.aload_n 0, 1) := by decide +kernel
set_option maxRecDepth 20000 in
theorem dX0_removeFace_1 : decode cX0_removeFace 1 = .ok (.iconst 2, 1) := by decide +kernel
set_option maxRecDepth 20000 in
theorem dX0_removeFace_2 : decode cX0_removeFace 2 = .ok (.invokevirtual 21, 3) := by decide +kernel
set_option maxRecDepth 20000 in
theorem dX0_removeFace_5 : decode cX0_removeFace 5 = .ok (.iconst 1, 1) := by decide +kernel
set_option maxRecDepth 20000 in
theorem dX0_removeFace_6 : decode cX0_removeFace 6 = .ok (.isub, 1) := by decide +kernel
set_option maxRecDepth 20000 in
theorem dX0_removeFace_7 : decode cX0_removeFace 7 = .ok (.istore_n 2, 1) := by decide +kernel
set_option maxRecDepth 20000 in
theorem dX0_removeFace_8 : decode cX0_removeFace 8 = .ok (.iload_n 1, 1) := by decide +kernel
set_option maxRecDepth 20000 in
theorem dX0_removeFace_9 : decode cX0_removeFace 9 = .ok (.istore_n 3, 1) := by decide +kernel
set_option maxRecDepth 20000 in
theorem dX0_removeFace_10 : decode cX0_removeFace 10 = .ok (.iload_n 3, 1) := by decide +kernel
set_option maxRecDepth 20000 in
theorem dX0_removeFace_11 : decode cX0_removeFace 11 = .ok (.iload_n 2, 1) := by decide +kernel
set_option maxRecDepth 20000 in
theorem dX0_removeFace_12 : decode cX0_removeFace 12 = .ok (.if_icmp .ge 75, 3) := by decide +kernel
set_option maxRecDepth 20000 in
theorem dX0_removeFace_15 : decode cX0_removeFace 15 = .ok (.aload_n 0, 1) := by decide +kernel
set_option maxRecDepth 20000 in
theorem dX0_removeFace_16 : decode cX0_removeFace 16 = .ok (.iconst 2, 1) := by decide +kernel
set_option maxRecDepth 20000 in
theorem dX0_removeFace_17 : decode cX0_removeFace 17 = .ok (.iload_n 3, 1) := by decide +kernel
set_option maxRecDepth 20000 in
theorem dX0_removeFace_18 : decode cX0_removeFace 18 = .ok (.aload_n 0, 1) := by decide +kernel
set_option maxRecDepth 20000 in
theorem dX0_removeFace_19 : decode cX0_removeFace 19 = .ok (.iconst 2, 1) := by decide +kernel
set_option maxRecDepth 20000 in
theorem dX0_removeFace_20 : decode cX0_removeFace 20 = .ok (.iload_n 3, 1) := by decide +kernel
set_option maxRecDepth 20000 in
theorem dX0_removeFace_21 : decode cX0_removeFace 21 = .ok (.iconst 1, 1) := by decide +kernel
set_option maxRecDepth 20000 in
theorem dX0_removeFace_22 : decode cX0_removeFace 22 = .ok (.iadd, 1) := by decide +kernel
set_option maxRecDepth 20000 in
theorem dX0_removeFace_23 : decode cX0_removeFace 23 = .ok (.invokevirtual 71, 3) := by decide +kernel
set_option maxRecDepth 20000 in
theorem dX0_removeFace_26 : decode cX0_removeFace 26 = .ok (.invokevirtual 51, 3) := by decide +kernel
set_option maxRecDepth 20000 in
theorem dX0_removeFace_29 : decode cX0_removeFace 29 = .ok (.aload_n 0, 1) := by decide +kernel
set_option maxRecDepth 20000 in
theorem dX0_removeFace_30 : decode cX0_removeFace 30 = .ok (.bipush 25, 2) := by decide +kernel
set_option maxRecDepth 20000 in
theorem dX0_removeFace_32 : decode cX0_removeFace 32 = .ok (.iload_n 3, 1) := by decide +kernel
set_option maxRecDepth 20000 in
theorem dX0_removeFace_33 : decode cX0_removeFace 33 = .ok (.iadd, 1) := by decide +kernel
set_option maxRecDepth 20000 in
theorem dX0_removeFace_34 : decode cX0_removeFace 34 = .ok (.aload_n 0, 1) := by decide +kernel
set_option maxRecDepth 20000 in
theorem dX0_removeFace_35 : decode cX0_removeFace 35 = .ok (.iload_n 3, 1) := by decide +kernel
set_option maxRecDepth 20000 in
theorem dX0_removeFace_36 : decode cX0_removeFace 36 = .ok (.iconst 1, 1) := by decide +kernel
set_option maxRecDepth 20000 in
theorem dX0_removeFace_37 : decode cX0_removeFace 37 = .ok (.iadd, 1) := by decide +kernel
set_option maxRecDepth 20000 in
theorem dX0_removeFace_38 : decode cX0_removeFace 38 = .ok (.invokevirtual 65, 3) := by decide +kernel
set_option maxRecDepth 20000 in
theorem dX0_removeFace_41 : decode cX0_removeFace 41 = .ok (.invokevirtual 32, 3) := by decide +kernel
set_option maxRecDepth 20000 in
theorem dX0_removeFace_44 : decode cX0_removeFace 44 = .ok (.iconst 0, 1) := by decide +kernel
set_option maxRecDepth 20000 in
theorem dX0_removeFace_45 : decode cX0_removeFace 45 = .ok (.istore 4, 2) := by decide +kernel
set_option maxRecDepth 20000 in
theorem dX0_removeFace_47 : decode cX0_removeFace 47 = .ok (.iload 4, 2) := by decide +kernel
set_option maxRecDepth 20000 in
theorem dX0_removeFace_49 : decode cX0_removeFace 49 = .ok (.iconst 4, 1) := by decide +kernel
set_option maxRecDepth 20000 in
theorem dX0_removeFace_50 : decode cX0_removeFace 50 = .ok (.if_icmp .ge 31, 3) := by decide +kernel
set_option maxRecDepth 20000 in
theorem dX0_removeFace_53 : decode cX0_removeFace 53 = .ok (.aload_n 0, 1) := by decide +kernel
set_option maxRecDepth 20000 in
theorem dX0_removeFace_54 : decode cX0_removeFace 54 = .ok (.bipush 29, 2) := by decide +kernel
set_option maxRecDepth 20000 in
theorem dX0_removeFace_56 : decode cX0_removeFace 56 = .ok (.iload_n 3, 1) := by decide +kernel
set_option maxRecDepth 20000 in
theorem dX0_removeFace_57 : decode cX0_removeFace 57 = .ok (.iconst 4, 1) := by decide +kernel
set_option maxRecDepth 20000 in
theorem dX0_removeFace_58 : decode cX0_removeFace 58 = .ok (.imul, 1) := by decide +kernel
set_option maxRecDepth 20000 in
theorem dX0_removeFace_59 : decode cX0_removeFace 59 = .ok (.iadd, 1) := by decide +kernel
set_option maxRecDepth 20000 in
theorem dX0_removeFace_60 : decode cX0_removeFace 60 = .ok (.iload 4, 2) := by decide +kernel
set_option maxRecDepth 20000 in
theorem dX0_removeFace_62 : decode cX0_removeFace 62 = .ok (.iadd, 1) := by decide +kernel
set_option maxRecDepth 20000 in
theorem dX0_removeFace_63 : decode cX0_removeFace 63 = .ok (.aload_n 0, 1) := by decide +kernel
set_option maxRecDepth 20000 in
theorem dX0_removeFace_64 : decode cX0_removeFace 64 = .ok (.iload_n 3, 1) := by decide +kernel
set_option maxRecDepth 20000 in
theorem dX0_removeFace_65 : decode cX0_removeFace 65 = .ok (.iconst 1, 1) := by decide +kernel
set_option maxRecDepth 20000 in
theorem dX0_removeFace_66 : decode cX0_removeFace 66 = .ok (.iadd, 1) := by decide +kernel
set_option maxRecDepth 20000 in
theorem dX0_removeFace_67 : decode cX0_removeFace 67 = .ok (.iload 4, 2) := by decide +kernel
set_option maxRecDepth 20000 in
theorem dX0_removeFace_69 : decode cX0_removeFace 69 = .ok (.invokevirtual 68, 3) := by decide +kernel
set_option maxRecDepth 20000 in
theorem dX0_removeFace_72 : decode cX0_removeFace 72 = .ok (.invokevirtual 32, 3) := by decide +kernel
set_option maxRecDepth 20000 in
theorem dX0_removeFace_75 : decode cX0_removeFace 75 = .ok (.iinc 4 1, 3) := by decide +kernel
set_option maxRecDepth 20000 in
theorem dX0_removeFace_78 : decode cX0_removeFace 78 = .ok (.goto (-31), 3) := by decide +kernel
set_option maxRecDepth 20000 in
theorem dX0_removeFace_81 : decode cX0_removeFace 81 = .ok (.iinc 3 1, 3) := by decide +kernel
set_option maxRecDepth 20000 in
theorem dX0_removeFace_84 : decode cX0_removeFace 84 = .ok (.goto (-74), 3) := by decide +kernel
set_option maxRecDepth 20000 in
theorem dX0_removeFace_87 : decode cX0_removeFace 87 = .ok (.aload_n 0, 1) := by decide +kernel
set_option maxRecDepth 20000 in
theorem dX0_removeFace_88 : decode cX0_removeFace 88 = .ok (.iconst 2, 1) := by decide +kernel
set_option maxRecDepth 20000 in
theorem dX0_removeFace_89 : decode cX0_removeFace 89 = .ok (.iload_n 2, 1) := by decide +kernel
set_option maxRecDepth 20000 in
theorem dX0_removeFace_90 : decode cX0_removeFace 90 = .ok (.invokevirtual 32, 3) := by decide +kernel
set_option maxRecDepth 20000 in
theorem dX0_removeFace_93 : decode cX0_removeFace 93 = .ok (.return_, 1) := by decide +kernel
set_option maxRecDepth 20000 in
theorem dX0_isOfKind_0 : decode cX0_isOfKind 0 = .ok (.iload_n 3, 1) := by decide +kernel
set_option maxRecDepth 20000 in
theorem dX0_isOfKind_1 : decode cX0_isOfKind 1 = .ok (.tableswitch 116 0 5 #[39, 41, 51, 62, 86, 97], 39) := by decide +kernel
set_option maxRecDepth 20000 in
theorem dX0_isOfKind_40 : decode cX0_isOfKind 40 = .ok (.iconst 1, 1) := by decide +kernel
set_option maxRecDepth 20000 in
theorem dX0_isOfKind_41 : decode cX0_isOfKind 41 = .ok (.ireturn, 1) := by decide +kernel
set_option maxRecDepth 20000 in
theorem dX0_isOfKind_42 : decode cX0_isOfKind 42 = .ok (.iload_n 1, 1) := by decide +kernel
set_option maxRecDepth 20000 in
theorem dX0_isOfKind_43 : decode cX0_isOfKind 43 = .ok (.ifCond .ne 7, 3) := by decide +kernel
set_option maxRecDepth 20000 in
theorem dX0_isOfKind_46 : decode cX0_isOfKind 46 = .ok (.iconst 1, 1) := by decide +kernel
set_option maxRecDepth 20000 in
theorem dX0_isOfKind_47 : decode cX0_isOfKind 47 = .ok (.goto 4, 3) := by decide +kernel
set_option maxRecDepth 20000 in
theorem dX0_isOfKind_50 : decode cX0_isOfKind 50 = .ok (.iconst 0, 1) := by decide +kernel
set_option maxRecDepth 20000 in
theorem dX0_isOfKind_51 : decode cX0_isOfKind 51 = .ok (.ireturn, 1) := by decide +kernel
set_option maxRecDepth 20000 in
theorem dX0_isOfKind_52 : decode cX0_isOfKind 52 = .ok (.iload_n 1, 1) := by decide +kernel
set_option maxRecDepth 20000 in
theorem dX0_isOfKind_53 : decode cX0_isOfKind 53 = .ok (.iconst 1, 1) := by decide +kernel
set_option maxRecDepth 20000 in
theorem dX0_isOfKind_54 : decode cX0_isOfKind 54 = .ok (.if_icmp .ne 7, 3) := by decide +kernel
set_option maxRecDepth 20000 in
theorem dX0_isOfKind_57 : decode cX0_isOfKind 57 = .ok (.iconst 1, 1) := by decide +kernel
set_option maxRecDepth 20000 in
theorem dX0_isOfKind_58 : decode cX0_isOfKind 58 = .ok (.goto 4, 3) := by decide +kernel
set_option maxRecDepth 20000 in
theorem dX0_isOfKind_61 : decode cX0_isOfKind 61 = .ok (.iconst 0, 1) := by decide +kernel
set_option maxRecDepth 20000 in
theorem dX0_isOfKind_62 : decode cX0_isOfKind 62 = .ok (.ireturn, 1) := by decide +kernel
set_option maxRecDepth 20000 in
theorem dX0_isOfKind_63 : decode cX0_isOfKind 63 = .ok (.iload_n 1, 1) := by decide +kernel
set_option maxRecDepth 20000 in
theorem dX0_isOfKind_64 : decode cX0_isOfKind 64 = .ok (.iconst 1, 1) := by decide +kernel
set_option maxRecDepth 20000 in
theorem dX0_isOfKind_65 : decode cX0_isOfKind 65 = .ok (.if_icmp .ne 20, 3) := by decide +kernel
set_option maxRecDepth 20000 in
theorem dX0_isOfKind_68 : decode cX0_isOfKind 68 = .ok (.aload_n 0, 1) := by decide +kernel
set_option maxRecDepth 20000 in
theorem dX0_isOfKind_69 : decode cX0_isOfKind 69 = .ok (.iload_n 2, 1) := by decide +kernel
set_option maxRecDepth 20000 in
theorem dX0_isOfKind_70 : decode cX0_isOfKind 70 = .ok (.invokevirtual 48, 3) := by decide +kernel
set_option maxRecDepth 20000 in
theorem dX0_isOfKind_73 : decode cX0_isOfKind 73 = .ok (.aload_n 0, 1) := by decide +kernel
set_option maxRecDepth 20000 in
theorem dX0_isOfKind_74 : decode cX0_isOfKind 74 = .ok (.iload_n 2, 1) := by decide +kernel
set_option maxRecDepth 20000 in
theorem dX0_isOfKind_75 : decode cX0_isOfKind 75 = .ok (.invokevirtual 45, 3) := by decide +kernel
set_option maxRecDepth 20000 in
theorem dX0_isOfKind_78 : decode cX0_isOfKind 78 = .ok (.if_icmp .ne 7, 3) := by decide +kernel
set_option maxRecDepth 20000 in
theorem dX0_isOfKind_81 : decode cX0_isOfKind 81 = .ok (.iconst 1, 1) := by decide +kernel
set_option maxRecDepth 20000 in
theorem dX0_isOfKind_82 : decode cX0_isOfKind 82 = .ok (.goto 4, 3) := by decide +kernel
set_option maxRecDepth 20000 in
theorem dX0_isOfKind_85 : decode cX0_isOfKind 85 = .ok (.iconst 0, 1) := by decide +kernel
set_option maxRecDepth 20000 in
theorem dX0_isOfKind_86 : decode cX0_isOfKind 86 = .ok (.ireturn, 1) := by decide +kernel
set_option maxRecDepth 20000 in
theorem dX0_isOfKind_87 : decode cX0_isOfKind 87 = .ok (.iload_n 1, 1) := by decide +kernel
set_option maxRecDepth 20000 in
theorem dX0_isOfKind_88 : decode cX0_isOfKind 88 = .ok (.iconst 2, 1) := by decide +kernel
set_option maxRecDepth 20000 in
theorem dX0_isOfKind_89 : decode cX0_isOfKind 89 = .ok (.if_icmp .ne 7, 3) := by decide +kernel
set_option maxRecDepth 20000 in
theorem dX0_isOfKind_92 : decode cX0_isOfKind 92 = .ok (.iconst 1, 1) := by decide +kernel
set_option maxRecDepth 20000 in
theorem dX0_isOfKind_93 : decode cX0_isOfKind 93 = .ok (.goto 4, 3) := by decide +kernel
set_option maxRecDepth 20000 in
theorem dX0_isOfKind_96 : decode cX0_isOfKind 96 = .ok (.iconst 0, 1) := by decide +kernel
set_option maxRecDepth 20000 in
theorem dX0_isOfKind_97 : decode cX0_isOfKind 97 = .ok (.ireturn, 1) := by decide +kernel
set_option maxRecDepth 20000 in
theorem dX0_isOfKind_98 : decode cX0_isOfKind 98 = .ok (.iload_n 1, 1) := by decide +kernel
set_option maxRecDepth 20000 in
theorem dX0_isOfKind_99 : decode cX0_isOfKind 99 = .ok (.iconst 2, 1) := by decide +kernel
set_option maxRecDepth 20000 in
theorem dX0_isOfKind_100 : decode cX0_isOfKind 100 = .ok (.if_icmp .ne 15, 3) := by decide +kernel
set_option maxRecDepth 20000 in
theorem dX0_isOfKind_103 : decode cX0_isOfKind 103 = .ok (.aload_n 0, 1) := by decide +kernel
set_option maxRecDepth 20000 in
theorem dX0_isOfKind_104 : decode cX0_isOfKind 104 = .ok (.iload_n 2, 1) := by decide +kernel
set_option maxRecDepth 20000 in
theorem dX0_isOfKind_105 : decode cX0_isOfKind 105 = .ok (.invokevirtual 81, 3) := by decide +kernel
set_option maxRecDepth 20000 in
theorem dX0_isOfKind_108 : decode cX0_isOfKind 108 = .ok (.ifCond .eq 7, 3) := by decide +kernel
set_option maxRecDepth 20000 in
theorem dX0_isOfKind_111 : decode cX0_isOfKind 111 = .ok (.iconst 1, 1) := by decide +kernel
set_option maxRecDepth 20000 in
theorem dX0_isOfKind_112 : decode cX0_isOfKind 112 = .ok (.goto 4, 3) := by decide +kernel
set_option maxRecDepth 20000 in
theorem dX0_isOfKind_115 : decode cX0_isOfKind 115 = .ok (.iconst 0, 1) := by decide +kernel
set_option maxRecDepth 20000 in
theorem dX0_isOfKind_116 : decode cX0_isOfKind 116 = .ok (.ireturn, 1) := by decide +kernel
set_option maxRecDepth 20000 in
theorem dX0_isOfKind_117 : decode cX0_isOfKind 117 = .ok (.iconst 0, 1) := by decide +kernel
set_option maxRecDepth 20000 in
theorem dX0_isOfKind_118 : decode cX0_isOfKind 118 = .ok (.ireturn, 1) := by decide +kernel
set_option maxRecDepth 20000 in
theorem dX0_isSealed_0 : decode cX0_isSealed 0 = .ok (.iconst 0, 1) := by decide +kernel
set_option maxRecDepth 20000 in
theorem dX0_isSealed_1 : decode cX0_isSealed 1 = .ok (.istore_n 2, 1) := by decide +kernel
set_option maxRecDepth 20000 in
theorem dX0_isSealed_2 : decode cX0_isSealed 2 = .ok (.iload_n 2, 1) := by decide +kernel
set_option maxRecDepth 20000 in
theorem dX0_isSealed_3 : decode cX0_isSealed 3 = .ok (.aload_n 0, 1) := by decide +kernel
set_option maxRecDepth 20000 in
theorem dX0_isSealed_4 : decode cX0_isSealed 4 = .ok (.iconst 1, 1) := by decide +kernel
set_option maxRecDepth 20000 in
theorem dX0_isSealed_5 : decode cX0_isSealed 5 = .ok (.invokevirtual 21, 3) := by decide +kernel
set_option maxRecDepth 20000 in
theorem dX0_isSealed_8 : decode cX0_isSealed 8 = .ok (.if_icmp .ge 21, 3) := by decide +kernel
set_option maxRecDepth 20000 in
theorem dX0_isSealed_11 : decode cX0_isSealed 11 = .ok (.aload_n 0, 1) := by decide +kernel
set_option maxRecDepth 20000 in
theorem dX0_isSealed_12 : decode cX0_isSealed 12 = .ok (.iconst 2, 1) := by decide +kernel
set_option maxRecDepth 20000 in
theorem dX0_isSealed_13 : decode cX0_isSealed 13 = .ok (.iload_n 2, 1) := by decide +kernel
set_option maxRecDepth 20000 in
theorem dX0_isSealed_14 : decode cX0_isSealed 14 = .ok (.iload_n 1, 1) := by decide +kernel
set_option maxRecDepth 20000 in
theorem dX0_isSealed_15 : decode cX0_isSealed 15 = .ok (.invokevirtual 84, 3) := by decide +kernel
set_option maxRecDepth 20000 in
theorem dX0_isSealed_18 : decode cX0_isSealed 18 = .ok (.ifCond .eq 5, 3) := by decide +kernel
set_option maxRecDepth 20000 in
theorem dX0_isSealed_21 : decode cX0_isSealed 21 = .ok (.iconst 0, 1) := by decide +kernel
set_option maxRecDepth 20000 in
theorem dX0_isSealed_22 : decode cX0_isSealed 22 = .ok (.ireturn, 1) := by decide +kernel
set_option maxRecDepth 20000 in
theorem dX0_isSealed_23 : decode cX0_isSealed 23 = .ok (.iinc 2 1, 3) := by decide +kernel
set_option maxRecDepth 20000 in
theorem dX0_isSealed_26 : decode cX0_isSealed 26 = .ok (.goto (-24), 3) := by decide +kernel
set_option maxRecDepth 20000 in
theorem dX0_isSealed_29 : decode cX0_isSealed 29 = .ok (.iconst 1, 1) := by decide +kernel
set_option maxRecDepth 20000 in
theorem dX0_isSealed_30 : decode cX0_isSealed 30 = .ok (.ireturn, 1) := by decide +kernel
set_option maxRecDepth 20000 in
theorem dX0_entryOf_0 : decode cX0_entryOf 0 = .ok (.iload_n 1, 1) := by decide +kernel
set_option maxRecDepth 20000 in
theorem dX0_entryOf_1 : decode cX0_entryOf 1 = .ok (.iconst 1, 1) := by decide +kernel
set_option maxRecDepth 20000 in
theorem dX0_entryOf_2 : decode cX0_entryOf 2 = .ok (.if_icmp .ne 33, 3) := by decide +kernel
set_option maxRecDepth 20000 in
theorem dX0_entryOf_5 : decode cX0_entryOf 5 = .ok (.aload_n 0, 1) := by decide +kernel
set_option maxRecDepth 20000 in
theorem dX0_entryOf_6 : decode cX0_entryOf 6 = .ok (.iload_n 3, 1) := by decide +kernel
set_option maxRecDepth 20000 in
theorem dX0_entryOf_7 : decode cX0_entryOf 7 = .ok (.invokevirtual 45, 3) := by decide +kernel
set_option maxRecDepth 20000 in
theorem dX0_entryOf_10 : decode cX0_entryOf 10 = .ok (.iload_n 2, 1) := by decide +kernel
set_option maxRecDepth 20000 in
theorem dX0_entryOf_11 : decode cX0_entryOf 11 = .ok (.if_icmp .ne 7, 3) := by decide +kernel
set_option maxRecDepth 20000 in
theorem dX0_entryOf_14 : decode cX0_entryOf 14 = .ok (.iconst 1, 1) := by decide +kernel
set_option maxRecDepth 20000 in
theorem dX0_entryOf_15 : decode cX0_entryOf 15 = .ok (.goto 4, 3) := by decide +kernel
set_option maxRecDepth 20000 in
theorem dX0_entryOf_18 : decode cX0_entryOf 18 = .ok (.iconst 0, 1) := by decide +kernel
set_option maxRecDepth 20000 in
theorem dX0_entryOf_19 : decode cX0_entryOf 19 = .ok (.aload_n 0, 1) := by decide +kernel
set_option maxRecDepth 20000 in
theorem dX0_entryOf_20 : decode cX0_entryOf 20 = .ok (.iload_n 3, 1) := by decide +kernel
set_option maxRecDepth 20000 in
theorem dX0_entryOf_21 : decode cX0_entryOf 21 = .ok (.invokevirtual 48, 3) := by decide +kernel
set_option maxRecDepth 20000 in
theorem dX0_entryOf_24 : decode cX0_entryOf 24 = .ok (.iload_n 2, 1) := by decide +kernel
set_option maxRecDepth 20000 in
theorem dX0_entryOf_25 : decode cX0_entryOf 25 = .ok (.if_icmp .ne 7, 3) := by decide +kernel
set_option maxRecDepth 20000 in
theorem dX0_entryOf_28 : decode cX0_entryOf 28 = .ok (.iconst 1, 1) := by decide +kernel
set_option maxRecDepth 20000 in
theorem dX0_entryOf_29 : decode cX0_entryOf 29 = .ok (.goto 4, 3) := by decide +kernel
set_option maxRecDepth 20000 in
theorem dX0_entryOf_32 : decode cX0_entryOf 32 = .ok (.iconst 0, 1) := by decide +kernel
set_option maxRecDepth 20000 in
theorem dX0_entryOf_33 : decode cX0_entryOf 33 = .ok (.isub, 1) := by decide +kernel
set_option maxRecDepth 20000 in
theorem dX0_entryOf_34 : decode cX0_entryOf 34 = .ok (.ireturn, 1) := by decide +kernel
set_option maxRecDepth 20000 in
theorem dX0_entryOf_35 : decode cX0_entryOf 35 = .ok (.iconst 0, 1) := by decide +kernel
set_option maxRecDepth 20000 in
theorem dX0_entryOf_36 : decode cX0_entryOf 36 = .ok (.istore 4, 2) := by decide +kernel
set_option maxRecDepth 20000 in
theorem dX0_entryOf_38 : decode cX0_entryOf 38 = .ok (.iconst 0, 1) := by decide +kernel
set_option maxRecDepth 20000 in
theorem dX0_entryOf_39 : decode cX0_entryOf 39 = .ok (.istore 5, 2) := by decide +kernel
set_option maxRecDepth 20000 in
theorem dX0_entryOf_41 : decode cX0_entryOf 41 = .ok (.iload 5, 2) := by decide +kernel
set_option maxRecDepth 20000 in
theorem dX0_entryOf_43 : decode cX0_entryOf 43 = .ok (.aload_n 0, 1) := by decide +kernel
set_option maxRecDepth 20000 in
theorem dX0_entryOf_44 : decode cX0_entryOf 44 = .ok (.iload_n 3, 1) := by decide +kernel
set_option maxRecDepth 20000 in
theorem dX0_entryOf_45 : decode cX0_entryOf 45 = .ok (.invokevirtual 65, 3) := by decide +kernel
set_option maxRecDepth 20000 in
theorem dX0_entryOf_48 : decode cX0_entryOf 48 = .ok (.if_icmp .ge 45, 3) := by decide +kernel
set_option maxRecDepth 20000 in
theorem dX0_entryOf_51 : decode cX0_entryOf 51 = .ok (.aload_n 0, 1) := by decide +kernel
set_option maxRecDepth 20000 in
theorem dX0_entryOf_52 : decode cX0_entryOf 52 = .ok (.iload_n 3, 1) := by decide +kernel
set_option maxRecDepth 20000 in
theorem dX0_entryOf_53 : decode cX0_entryOf 53 = .ok (.iload 5, 2) := by decide +kernel
set_option maxRecDepth 20000 in
theorem dX0_entryOf_55 : decode cX0_entryOf 55 = .ok (.invokevirtual 68, 3) := by decide +kernel
set_option maxRecDepth 20000 in
theorem dX0_entryOf_58 : decode cX0_entryOf 58 = .ok (.istore 6, 2) := by decide +kernel
set_option maxRecDepth 20000 in
theorem dX0_entryOf_60 : decode cX0_entryOf 60 = .ok (.iload 6, 2) := by decide +kernel
set_option maxRecDepth 20000 in
theorem dX0_entryOf_62 : decode cX0_entryOf 62 = .ok (.invokestatic 36, 3) := by decide +kernel
set_option maxRecDepth 20000 in
theorem dX0_entryOf_65 : decode cX0_entryOf 65 = .ok (.iload_n 2, 1) := by decide +kernel
set_option maxRecDepth 20000 in
theorem dX0_entryOf_66 : decode cX0_entryOf 66 = .ok (.if_icmp .ne 21, 3) := by decide +kernel
set_option maxRecDepth 20000 in
theorem dX0_entryOf_69 : decode cX0_entryOf 69 = .ok (.iload 4, 2) := by decide +kernel
set_option maxRecDepth 20000 in
theorem dX0_entryOf_71 : decode cX0_entryOf 71 = .ok (.iload 6, 2) := by decide +kernel
set_option maxRecDepth 20000 in
theorem dX0_entryOf_73 : decode cX0_entryOf 73 = .ok (.invokestatic 41, 3) := by decide +kernel
set_option maxRecDepth 20000 in
theorem dX0_entryOf_76 : decode cX0_entryOf 76 = .ok (.ifCond .eq 7, 3) := by decide +kernel
set_option maxRecDepth 20000 in
theorem dX0_entryOf_79 : decode cX0_entryOf 79 = .ok (.iconst (-1), 1) := by decide +kernel
set_option maxRecDepth 20000 in
theorem dX0_entryOf_80 : decode cX0_entryOf 80 = .ok (.goto 4, 3) := by decide +kernel
set_option maxRecDepth 20000 in
theorem dX0_entryOf_83 : decode cX0_entryOf 83 = .ok (.iconst 1, 1) := by decide +kernel
set_option maxRecDepth 20000 in
theorem dX0_entryOf_84 : decode cX0_entryOf 84 = .ok (.iadd, 1) := by decide +kernel
set_option maxRecDepth 20000 in
theorem dX0_entryOf_85 : decode cX0_entryOf 85 = .ok (.istore 4, 2) := by decide +kernel
set_option maxRecDepth 20000 in
theorem dX0_entryOf_87 : decode cX0_entryOf 87 = .ok (.iinc 5 1, 3) := by decide +kernel
set_option maxRecDepth 20000 in
theorem dX0_entryOf_90 : decode cX0_entryOf 90 = .ok (.goto (-49), 3) := by decide +kernel
set_option maxRecDepth 20000 in
theorem dX0_entryOf_93 : decode cX0_entryOf 93 = .ok (.iload 4, 2) := by decide +kernel
set_option maxRecDepth 20000 in
theorem dX0_entryOf_95 : decode cX0_entryOf 95 = .ok (.ireturn, 1) := by decide +kernel
set_option maxRecDepth 20000 in
theorem dX0_nearOf_0 : decode cX0_nearOf 0 = .ok (.iconst 0, 1) := by decide +kernel
set_option maxRecDepth 20000 in
theorem dX0_nearOf_1 : decode cX0_nearOf 1 = .ok (.istore 4, 2) := by decide +kernel
set_option maxRecDepth 20000 in
theorem dX0_nearOf_3 : decode cX0_nearOf 3 = .ok (.iload_n 1, 1) := by decide +kernel
set_option maxRecDepth 20000 in
theorem dX0_nearOf_4 : decode cX0_nearOf 4 = .ok (.iconst 1, 1) := by decide +kernel
set_option maxRecDepth 20000 in
theorem dX0_nearOf_5 : decode cX0_nearOf 5 = .ok (.if_icmp .ne 47, 3) := by decide +kernel
set_option maxRecDepth 20000 in
theorem dX0_nearOf_8 : decode cX0_nearOf 8 = .ok (.iconst 0, 1) := by decide +kernel
set_option maxRecDepth 20000 in
theorem dX0_nearOf_9 : decode cX0_nearOf 9 = .ok (.istore 5, 2) := by decide +kernel
set_option maxRecDepth 20000 in
theorem dX0_nearOf_11 : decode cX0_nearOf 11 = .ok (.iload 5, 2) := by decide +kernel
set_option maxRecDepth 20000 in
theorem dX0_nearOf_13 : decode cX0_nearOf 13 = .ok (.aload_n 0, 1) := by decide +kernel
set_option maxRecDepth 20000 in
theorem dX0_nearOf_14 : decode cX0_nearOf 14 = .ok (.iconst 0, 1) := by decide +kernel
set_option maxRecDepth 20000 in
theorem dX0_nearOf_15 : decode cX0_nearOf 15 = .ok (.invokevirtual 21, 3) := by decide +kernel
set_option maxRecDepth 20000 in
theorem dX0_nearOf_18 : decode cX0_nearOf 18 = .ok (.if_icmp .ge 31, 3) := by decide +kernel
set_option maxRecDepth 20000 in
theorem dX0_nearOf_21 : decode cX0_nearOf 21 = .ok (.iload 4, 2) := by decide +kernel
set_option maxRecDepth 20000 in
theorem dX0_nearOf_23 : decode cX0_nearOf 23 = .ok (.aload_n 0, 1) := by decide +kernel
set_option maxRecDepth 20000 in
theorem dX0_nearOf_24 : decode cX0_nearOf 24 = .ok (.iconst 1, 1) := by decide +kernel
set_option maxRecDepth 20000 in
theorem dX0_nearOf_25 : decode cX0_nearOf 25 = .ok (.iload 5, 2) := by decide +kernel
set_option maxRecDepth 20000 in
theorem dX0_nearOf_27 : decode cX0_nearOf 27 = .ok (.iload_n 2, 1) := by decide +kernel
set_option maxRecDepth 20000 in
theorem dX0_nearOf_28 : decode cX0_nearOf 28 = .ok (.invokevirtual 84, 3) := by decide +kernel
set_option maxRecDepth 20000 in
theorem dX0_nearOf_31 : decode cX0_nearOf 31 = .ok (.aload_n 0, 1) := by decide +kernel
set_option maxRecDepth 20000 in
theorem dX0_nearOf_32 : decode cX0_nearOf 32 = .ok (.iconst 1, 1) := by decide +kernel
set_option maxRecDepth 20000 in
theorem dX0_nearOf_33 : decode cX0_nearOf 33 = .ok (.iload 5, 2) := by decide +kernel
set_option maxRecDepth 20000 in
theorem dX0_nearOf_35 : decode cX0_nearOf 35 = .ok (.iload_n 3, 1) := by decide +kernel
set_option maxRecDepth 20000 in
theorem dX0_nearOf_36 : decode cX0_nearOf 36 = .ok (.invokevirtual 84, 3) := by decide +kernel
set_option maxRecDepth 20000 in
theorem dX0_nearOf_39 : decode cX0_nearOf 39 = .ok (.imul, 1) := by decide +kernel
set_option maxRecDepth 20000 in
theorem dX0_nearOf_40 : decode cX0_nearOf 40 = .ok (.iadd, 1) := by decide +kernel
set_option maxRecDepth 20000 in
theorem dX0_nearOf_41 : decode cX0_nearOf 41 = .ok (.istore 4, 2) := by decide +kernel
set_option maxRecDepth 20000 in
theorem dX0_nearOf_43 : decode cX0_nearOf 43 = .ok (.iinc 5 1, 3) := by decide +kernel
set_option maxRecDepth 20000 in
theorem dX0_nearOf_46 : decode cX0_nearOf 46 = .ok (.goto (-35), 3) := by decide +kernel
set_option maxRecDepth 20000 in
theorem dX0_nearOf_49 : decode cX0_nearOf 49 = .ok (.iload 4, 2) := by decide +kernel
set_option maxRecDepth 20000 in
theorem dX0_nearOf_51 : decode cX0_nearOf 51 = .ok (.ireturn, 1) := by decide +kernel
set_option maxRecDepth 20000 in
theorem dX0_nearOf_52 : decode cX0_nearOf 52 = .ok (.iload_n 1, 1) := by decide +kernel
set_option maxRecDepth 20000 in
theorem dX0_nearOf_53 : decode cX0_nearOf 53 = .ok (.ifCond .ne 7, 3) := by decide +kernel
set_option maxRecDepth 20000 in
theorem dX0_nearOf_56 : decode cX0_nearOf 56 = .ok (.iconst 1, 1) := by decide +kernel
set_option maxRecDepth 20000 in
theorem dX0_nearOf_57 : decode cX0_nearOf 57 = .ok (.goto 4, 3) := by decide +kernel
set_option maxRecDepth 20000 in
theorem dX0_nearOf_60 : decode cX0_nearOf 60 = .ok (.iconst 2, 1) := by decide +kernel
set_option maxRecDepth 20000 in
theorem dX0_nearOf_61 : decode cX0_nearOf 61 = .ok (.istore 5, 2) := by decide +kernel
set_option maxRecDepth 20000 in
theorem dX0_nearOf_63 : decode cX0_nearOf 63 = .ok (.iconst 0, 1) := by decide +kernel
set_option maxRecDepth 20000 in
theorem dX0_nearOf_64 : decode cX0_nearOf 64 = .ok (.istore 6, 2) := by decide +kernel
set_option maxRecDepth 20000 in
theorem dX0_nearOf_66 : decode cX0_nearOf 66 = .ok (.iload 6, 2) := by decide +kernel
set_option maxRecDepth 20000 in
theorem dX0_nearOf_68 : decode cX0_nearOf 68 = .ok (.aload_n 0, 1) := by decide +kernel
set_option maxRecDepth 20000 in
theorem dX0_nearOf_69 : decode cX0_nearOf 69 = .ok (.iload 5, 2) := by decide +kernel
set_option maxRecDepth 20000 in
theorem dX0_nearOf_71 : decode cX0_nearOf 71 = .ok (.invokevirtual 21, 3) := by decide +kernel
set_option maxRecDepth 20000 in
theorem dX0_nearOf_74 : decode cX0_nearOf 74 = .ok (.if_icmp .ge 42, 3) := by decide +kernel
set_option maxRecDepth 20000 in
theorem dX0_nearOf_77 : decode cX0_nearOf 77 = .ok (.iload 4, 2) := by decide +kernel
set_option maxRecDepth 20000 in
theorem dX0_nearOf_79 : decode cX0_nearOf 79 = .ok (.aload_n 0, 1) := by decide +kernel
set_option maxRecDepth 20000 in
theorem dX0_nearOf_80 : decode cX0_nearOf 80 = .ok (.iload 5, 2) := by decide +kernel
set_option maxRecDepth 20000 in
theorem dX0_nearOf_82 : decode cX0_nearOf 82 = .ok (.iload_n 2, 1) := by decide +kernel
set_option maxRecDepth 20000 in
theorem dX0_nearOf_83 : decode cX0_nearOf 83 = .ok (.iload 6, 2) := by decide +kernel
set_option maxRecDepth 20000 in
theorem dX0_nearOf_85 : decode cX0_nearOf 85 = .ok (.invokevirtual 84, 3) := by decide +kernel
set_option maxRecDepth 20000 in
theorem dX0_nearOf_88 : decode cX0_nearOf 88 = .ok (.aload_n 0, 1) := by decide +kernel
set_option maxRecDepth 20000 in
theorem dX0_nearOf_89 : decode cX0_nearOf 89 = .ok (.iload 5, 2) := by decide +kernel
set_option maxRecDepth 20000 in
theorem dX0_nearOf_91 : decode cX0_nearOf 91 = .ok (.iload 6, 2) := by decide +kernel
set_option maxRecDepth 20000 in
theorem dX0_nearOf_93 : decode cX0_nearOf 93 = .ok (.invokevirtual 71, 3) := by decide +kernel
set_option maxRecDepth 20000 in
theorem dX0_nearOf_96 : decode cX0_nearOf 96 = .ok (.imul, 1) := by decide +kernel
set_option maxRecDepth 20000 in
theorem dX0_nearOf_97 : decode cX0_nearOf 97 = .ok (.aload_n 0, 1) := by decide +kernel
set_option maxRecDepth 20000 in
theorem dX0_nearOf_98 : decode cX0_nearOf 98 = .ok (.iload 5, 2) := by decide +kernel
set_option maxRecDepth 20000 in
theorem dX0_nearOf_100 : decode cX0_nearOf 100 = .ok (.iload_n 3, 1) := by decide +kernel
set_option maxRecDepth 20000 in
theorem dX0_nearOf_101 : decode cX0_nearOf 101 = .ok (.iload 6, 2) := by decide +kernel
set_option maxRecDepth 20000 in
theorem dX0_nearOf_103 : decode cX0_nearOf 103 = .ok (.invokevirtual 84, 3) := by decide +kernel
set_option maxRecDepth 20000 in
theorem dX0_nearOf_106 : decode cX0_nearOf 106 = .ok (.imul, 1) := by decide +kernel
set_option maxRecDepth 20000 in
theorem dX0_nearOf_107 : decode cX0_nearOf 107 = .ok (.iadd, 1) := by decide +kernel
set_option maxRecDepth 20000 in
theorem dX0_nearOf_108 : decode cX0_nearOf 108 = .ok (.istore 4, 2) := by decide +kernel
set_option maxRecDepth 20000 in
theorem dX0_nearOf_110 : decode cX0_nearOf 110 = .ok (.iinc 6 1, 3) := by decide +kernel
set_option maxRecDepth 20000 in
theorem dX0_nearOf_113 : decode cX0_nearOf 113 = .ok (.goto (-47), 3) := by decide +kernel
set_option maxRecDepth 20000 in
theorem dX0_nearOf_116 : decode cX0_nearOf 116 = .ok (.iload 4, 2) := by decide +kernel
set_option maxRecDepth 20000 in
theorem dX0_nearOf_118 : decode cX0_nearOf 118 = .ok (.ireturn, 1) := by decide +kernel
set_option maxRecDepth 20000 in
theorem dX0_numbersNotZero_0 : decode cX0_numbersNotZero 0 = .ok (.iconst 0, 1) := by decide +kernel
set_option maxRecDepth 20000 in
theorem dX0_numbersNotZero_1 : decode cX0_numbersNotZero 1 = .ok (.istore_n 2, 1) := by decide +kernel
set_option maxRecDepth 20000 in
theorem dX0_numbersNotZero_2 : decode cX0_numbersNotZero 2 = .ok (.iconst 0, 1) := by decide +kernel
set_option maxRecDepth 20000 in
theorem dX0_numbersNotZero_3 : decode cX0_numbersNotZero 3 = .ok (.istore_n 3, 1) := by decide +kernel
set_option maxRecDepth 20000 in
theorem dX0_numbersNotZero_4 : decode cX0_numbersNotZero 4 = .ok (.iload_n 3, 1) := by decide +kernel
set_option maxRecDepth 20000 in
theorem dX0_numbersNotZero_5 : decode cX0_numbersNotZero 5 = .ok (.aload_n 0, 1) := by decide +kernel
set_option maxRecDepth 20000 in
theorem dX0_numbersNotZero_6 : decode cX0_numbersNotZero 6 = .ok (.iconst 1, 1) := by decide +kernel
set_option maxRecDepth 20000 in
theorem dX0_numbersNotZero_7 : decode cX0_numbersNotZero 7 = .ok (.invokevirtual 21, 3) := by decide +kernel
set_option maxRecDepth 20000 in
theorem dX0_numbersNotZero_10 : decode cX0_numbersNotZero 10 = .ok (.if_icmp .ge 21, 3) := by decide +kernel
set_option maxRecDepth 20000 in
theorem dX0_numbersNotZero_13 : decode cX0_numbersNotZero 13 = .ok (.aload_n 0, 1) := by decide +kernel
set_option maxRecDepth 20000 in
theorem dX0_numbersNotZero_14 : decode cX0_numbersNotZero 14 = .ok (.iload_n 1, 1) := by decide +kernel
set_option maxRecDepth 20000 in
theorem dX0_numbersNotZero_15 : decode cX0_numbersNotZero 15 = .ok (.iload_n 3, 1) := by decide +kernel
set_option maxRecDepth 20000 in
theorem dX0_numbersNotZero_16 : decode cX0_numbersNotZero 16 = .ok (.invokevirtual 74, 3) := by decide +kernel
set_option maxRecDepth 20000 in
theorem dX0_numbersNotZero_19 : decode cX0_numbersNotZero 19 = .ok (.ifCond .eq 6, 3) := by decide +kernel
set_option maxRecDepth 20000 in
theorem dX0_numbersNotZero_22 : decode cX0_numbersNotZero 22 = .ok (.iinc 2 1, 3) := by decide +kernel
set_option maxRecDepth 20000 in
theorem dX0_numbersNotZero_25 : decode cX0_numbersNotZero 25 = .ok (.iinc 3 1, 3) := by decide +kernel
set_option maxRecDepth 20000 in
theorem dX0_numbersNotZero_28 : decode cX0_numbersNotZero 28 = .ok (.goto (-24), 3) := by decide +kernel
set_option maxRecDepth 20000 in
theorem dX0_numbersNotZero_31 : decode cX0_numbersNotZero 31 = .ok (.iload_n 2, 1) := by decide +kernel
set_option maxRecDepth 20000 in
theorem dX0_numbersNotZero_32 : decode cX0_numbersNotZero 32 = .ok (.ireturn, 1) := by decide +kernel
set_option maxRecDepth 20000 in
theorem dX0_boundaryAt_0 : decode cX0_boundaryAt 0 = .ok (.iconst 0, 1) := by decide +kernel
set_option maxRecDepth 20000 in
theorem dX0_boundaryAt_1 : decode cX0_boundaryAt 1 = .ok (.istore_n 3, 1) := by decide +kernel
set_option maxRecDepth 20000 in
theorem dX0_boundaryAt_2 : decode cX0_boundaryAt 2 = .ok (.iconst 0, 1) := by decide +kernel
set_option maxRecDepth 20000 in
theorem dX0_boundaryAt_3 : decode cX0_boundaryAt 3 = .ok (.istore 4, 2) := by decide +kernel
set_option maxRecDepth 20000 in
theorem dX0_boundaryAt_5 : decode cX0_boundaryAt 5 = .ok (.iload 4, 2) := by decide +kernel
set_option maxRecDepth 20000 in
theorem dX0_boundaryAt_7 : decode cX0_boundaryAt 7 = .ok (.aload_n 0, 1) := by decide +kernel
set_option maxRecDepth 20000 in
theorem dX0_boundaryAt_8 : decode cX0_boundaryAt 8 = .ok (.iconst 1, 1) := by decide +kernel
set_option maxRecDepth 20000 in
theorem dX0_boundaryAt_9 : decode cX0_boundaryAt 9 = .ok (.invokevirtual 21, 3) := by decide +kernel
set_option maxRecDepth 20000 in
theorem dX0_boundaryAt_12 : decode cX0_boundaryAt 12 = .ok (.if_icmp .ge 28, 3) := by decide +kernel
set_option maxRecDepth 20000 in
theorem dX0_boundaryAt_15 : decode cX0_boundaryAt 15 = .ok (.iload_n 3, 1) := by decide +kernel
set_option maxRecDepth 20000 in
theorem dX0_boundaryAt_16 : decode cX0_boundaryAt 16 = .ok (.aload_n 0, 1) := by decide +kernel
set_option maxRecDepth 20000 in
theorem dX0_boundaryAt_17 : decode cX0_boundaryAt 17 = .ok (.iload_n 1, 1) := by decide +kernel
set_option maxRecDepth 20000 in
theorem dX0_boundaryAt_18 : decode cX0_boundaryAt 18 = .ok (.iload 4, 2) := by decide +kernel
set_option maxRecDepth 20000 in
theorem dX0_boundaryAt_20 : decode cX0_boundaryAt 20 = .ok (.invokevirtual 74, 3) := by decide +kernel
set_option maxRecDepth 20000 in
theorem dX0_boundaryAt_23 : decode cX0_boundaryAt 23 = .ok (.aload_n 0, 1) := by decide +kernel
set_option maxRecDepth 20000 in
theorem dX0_boundaryAt_24 : decode cX0_boundaryAt 24 = .ok (.iconst 1, 1) := by decide +kernel
set_option maxRecDepth 20000 in
theorem dX0_boundaryAt_25 : decode cX0_boundaryAt 25 = .ok (.iload_n 2, 1) := by decide +kernel
set_option maxRecDepth 20000 in
theorem dX0_boundaryAt_26 : decode cX0_boundaryAt 26 = .ok (.iload 4, 2) := by decide +kernel
set_option maxRecDepth 20000 in
theorem dX0_boundaryAt_28 : decode cX0_boundaryAt 28 = .ok (.invokevirtual 84, 3) := by decide +kernel
set_option maxRecDepth 20000 in
theorem dX0_boundaryAt_31 : decode cX0_boundaryAt 31 = .ok (.imul, 1) := by decide +kernel
set_option maxRecDepth 20000 in
theorem dX0_boundaryAt_32 : decode cX0_boundaryAt 32 = .ok (.iadd, 1) := by decide +kernel
set_option maxRecDepth 20000 in
theorem dX0_boundaryAt_33 : decode cX0_boundaryAt 33 = .ok (.istore_n 3, 1) := by decide +kernel
set_option maxRecDepth 20000 in
theorem dX0_boundaryAt_34 : decode cX0_boundaryAt 34 = .ok (.iinc 4 1, 3) := by decide +kernel
set_option maxRecDepth 20000 in
theorem dX0_boundaryAt_37 : decode cX0_boundaryAt 37 = .ok (.goto (-32), 3) := by decide +kernel
set_option maxRecDepth 20000 in
theorem dX0_boundaryAt_40 : decode cX0_boundaryAt 40 = .ok (.iload_n 3, 1) := by decide +kernel
set_option maxRecDepth 20000 in
theorem dX0_boundaryAt_41 : decode cX0_boundaryAt 41 = .ok (.ireturn, 1) := by decide +kernel
set_option maxRecDepth 20000 in
theorem dX0_isCycle_0 : decode cX0_isCycle 0 = .ok (.iconst 0, 1) := by decide +kernel
set_option maxRecDepth 20000 in
theorem dX0_isCycle_1 : decode cX0_isCycle 1 = .ok (.istore_n 2, 1) := by decide +kernel
set_option maxRecDepth 20000 in
theorem dX0_isCycle_2 : decode cX0_isCycle 2 = .ok (.iload_n 2, 1) := by decide +kernel
set_option maxRecDepth 20000 in
theorem dX0_isCycle_3 : decode cX0_isCycle 3 = .ok (.aload_n 0, 1) := by decide +kernel
set_option maxRecDepth 20000 in
theorem dX0_isCycle_4 : decode cX0_isCycle 4 = .ok (.iconst 0, 1) := by decide +kernel
set_option maxRecDepth 20000 in
theorem dX0_isCycle_5 : decode cX0_isCycle 5 = .ok (.invokevirtual 21, 3) := by decide +kernel
set_option maxRecDepth 20000 in
theorem dX0_isCycle_8 : decode cX0_isCycle 8 = .ok (.if_icmp .ge 20, 3) := by decide +kernel
set_option maxRecDepth 20000 in
theorem dX0_isCycle_11 : decode cX0_isCycle 11 = .ok (.aload_n 0, 1) := by decide +kernel
set_option maxRecDepth 20000 in
theorem dX0_isCycle_12 : decode cX0_isCycle 12 = .ok (.iload_n 1, 1) := by decide +kernel
set_option maxRecDepth 20000 in
theorem dX0_isCycle_13 : decode cX0_isCycle 13 = .ok (.iload_n 2, 1) := by decide +kernel
set_option maxRecDepth 20000 in
theorem dX0_isCycle_14 : decode cX0_isCycle 14 = .ok (.invokevirtual 88, 3) := by decide +kernel
set_option maxRecDepth 20000 in
theorem dX0_isCycle_17 : decode cX0_isCycle 17 = .ok (.ifCond .eq 5, 3) := by decide +kernel
set_option maxRecDepth 20000 in
theorem dX0_isCycle_20 : decode cX0_isCycle 20 = .ok (.iconst 0, 1) := by decide +kernel
set_option maxRecDepth 20000 in
theorem dX0_isCycle_21 : decode cX0_isCycle 21 = .ok (.ireturn, 1) := by decide +kernel
set_option maxRecDepth 20000 in
theorem dX0_isCycle_22 : decode cX0_isCycle 22 = .ok (.iinc 2 1, 3) := by decide +kernel
set_option maxRecDepth 20000 in
theorem dX0_isCycle_25 : decode cX0_isCycle 25 = .ok (.goto (-23), 3) := by decide +kernel
set_option maxRecDepth 20000 in
theorem dX0_isCycle_28 : decode cX0_isCycle 28 = .ok (.iconst 1, 1) := by decide +kernel
set_option maxRecDepth 20000 in
theorem dX0_isCycle_29 : decode cX0_isCycle 29 = .ok (.ireturn, 1) := by decide +kernel
set_option maxRecDepth 20000 in
theorem dX1_init_0 : decode cX1_init 0 = .ok (.aload_n 0, 1) := by decide +kernel
set_option maxRecDepth 20000 in
theorem dX1_init_1 : decode cX1_init 1 = .ok (.invokespecial 3, 3) := by decide +kernel
set_option maxRecDepth 20000 in
theorem dX1_init_4 : decode cX1_init 4 = .ok (.aload_n 0, 1) := by decide +kernel
set_option maxRecDepth 20000 in
theorem dX1_init_5 : decode cX1_init 5 = .ok (.bipush 6, 2) := by decide +kernel
set_option maxRecDepth 20000 in
theorem dX1_init_7 : decode cX1_init 7 = .ok (.bipush 6, 2) := by decide +kernel
set_option maxRecDepth 20000 in
theorem dX1_init_9 : decode cX1_init 9 = .ok (.multianewarray 9 2, 4) := by decide +kernel
set_option maxRecDepth 20000 in
theorem dX1_init_13 : decode cX1_init 13 = .ok (.putfield 11, 3) := by decide +kernel
set_option maxRecDepth 20000 in
theorem dX1_init_16 : decode cX1_init 16 = .ok (.aload_n 0, 1) := by decide +kernel
set_option maxRecDepth 20000 in
theorem dX1_init_17 : decode cX1_init 17 = .ok (.sipush 4096, 3) := by decide +kernel
set_option maxRecDepth 20000 in
theorem dX1_init_20 : decode cX1_init 20 = .ok (.newarray .long, 2) := by decide +kernel
set_option maxRecDepth 20000 in
theorem dX1_init_22 : decode cX1_init 22 = .ok (.putfield 14, 3) := by decide +kernel
set_option maxRecDepth 20000 in
theorem dX1_init_25 : decode cX1_init 25 = .ok (.aload_n 0, 1) := by decide +kernel
set_option maxRecDepth 20000 in
theorem dX1_init_26 : decode cX1_init 26 = .ok (.iconst 0, 1) := by decide +kernel
set_option maxRecDepth 20000 in
theorem dX1_init_27 : decode cX1_init 27 = .ok (.putfield 18, 3) := by decide +kernel
set_option maxRecDepth 20000 in
theorem dX1_init_30 : decode cX1_init 30 = .ok (.aload_n 0, 1) := by decide +kernel
set_option maxRecDepth 20000 in
theorem dX1_init_31 : decode cX1_init 31 = .ok (.iconst 0, 1) := by decide +kernel
set_option maxRecDepth 20000 in
theorem dX1_init_32 : decode cX1_init 32 = .ok (.putfield 22, 3) := by decide +kernel
set_option maxRecDepth 20000 in
theorem dX1_init_35 : decode cX1_init 35 = .ok (.return_, 1) := by decide +kernel
set_option maxRecDepth 20000 in
theorem dX1_loadTable_0 : decode cX1_loadTable 0 = .ok (.aload_n 0, 1) := by decide +kernel
set_option maxRecDepth 20000 in
theorem dX1_loadTable_1 : decode cX1_loadTable 1 = .ok (.aload_n 1, 1) := by decide +kernel
set_option maxRecDepth 20000 in
theorem dX1_loadTable_2 : decode cX1_loadTable 2 = .ok (.iload_n 2, 1) := by decide +kernel
set_option maxRecDepth 20000 in
theorem dX1_loadTable_3 : decode cX1_loadTable 3 = .ok (.iconst 1, 1) := by decide +kernel
set_option maxRecDepth 20000 in
theorem dX1_loadTable_4 : decode cX1_loadTable 4 = .ok (.isub, 1) := by decide +kernel
set_option maxRecDepth 20000 in
theorem dX1_loadTable_5 : decode cX1_loadTable 5 = .ok (.invokevirtual 25, 3) := by decide +kernel
set_option maxRecDepth 20000 in
theorem dX1_loadTable_8 : decode cX1_loadTable 8 = .ok (.bipush 6, 2) := by decide +kernel
set_option maxRecDepth 20000 in
theorem dX1_loadTable_10 : decode cX1_loadTable 10 = .ok (.invokestatic 31, 3) := by decide +kernel
set_option maxRecDepth 20000 in
theorem dX1_loadTable_13 : decode cX1_loadTable 13 = .ok (.putfield 18, 3) := by decide +kernel
set_option maxRecDepth 20000 in
theorem dX1_loadTable_16 : decode cX1_loadTable 16 = .ok (.aload_n 0, 1) := by decide +kernel
set_option maxRecDepth 20000 in
theorem dX1_loadTable_17 : decode cX1_loadTable 17 = .ok (.aload_n 1, 1) := by decide +kernel
set_option maxRecDepth 20000 in
theorem dX1_loadTable_18 : decode cX1_loadTable 18 = .ok (.iload_n 2, 1) := by decide +kernel
set_option maxRecDepth 20000 in
theorem dX1_loadTable_19 : decode cX1_loadTable 19 = .ok (.invokevirtual 25, 3) := by decide +kernel
set_option maxRecDepth 20000 in
theorem dX1_loadTable_22 : decode cX1_loadTable 22 = .ok (.bipush 6, 2) := by decide +kernel
set_option maxRecDepth 20000 in
theorem dX1_loadTable_24 : decode cX1_loadTable 24 = .ok (.invokestatic 31, 3) := by decide +kernel
set_option maxRecDepth 20000 in
theorem dX1_loadTable_27 : decode cX1_loadTable 27 = .ok (.putfield 22, 3) := by decide +kernel
set_option maxRecDepth 20000 in
theorem dX1_loadTable_30 : decode cX1_loadTable 30 = .ok (.iconst 0, 1) := by decide +kernel
set_option maxRecDepth 20000 in
theorem dX1_loadTable_31 : decode cX1_loadTable 31 = .ok (.istore_n 3, 1) := by decide +kernel
set_option maxRecDepth 20000 in
theorem dX1_loadTable_32 : decode cX1_loadTable 32 = .ok (.iload_n 3, 1) := by decide +kernel
set_option maxRecDepth 20000 in
theorem dX1_loadTable_33 : decode cX1_loadTable 33 = .ok (.aload_n 0, 1) := by decide +kernel
set_option maxRecDepth 20000 in
theorem dX1_loadTable_34 : decode cX1_loadTable 34 = .ok (.getfield 18, 3) := by decide +kernel
set_option maxRecDepth 20000 in
theorem dX1_loadTable_37 : decode cX1_loadTable 37 = .ok (.if_icmp .ge 45, 3) := by decide +kernel
set_option maxRecDepth 20000 in
theorem dX1_loadTable_40 : decode cX1_loadTable 40 = .ok (.iconst 0, 1) := by decide +kernel
set_option maxRecDepth 20000 in
theorem dX1_loadTable_41 : decode cX1_loadTable 41 = .ok (.istore 4, 2) := by decide +kernel
set_option maxRecDepth 20000 in
theorem dX1_loadTable_43 : decode cX1_loadTable 43 = .ok (.iload 4, 2) := by decide +kernel
set_option maxRecDepth 20000 in
theorem dX1_loadTable_45 : decode cX1_loadTable 45 = .ok (.aload_n 0, 1) := by decide +kernel
set_option maxRecDepth 20000 in
theorem dX1_loadTable_46 : decode cX1_loadTable 46 = .ok (.getfield 22, 3) := by decide +kernel
set_option maxRecDepth 20000 in
theorem dX1_loadTable_49 : decode cX1_loadTable 49 = .ok (.if_icmp .ge 27, 3) := by decide +kernel
set_option maxRecDepth 20000 in
theorem dX1_loadTable_52 : decode cX1_loadTable 52 = .ok (.aload_n 0, 1) := by decide +kernel
set_option maxRecDepth 20000 in
theorem dX1_loadTable_53 : decode cX1_loadTable 53 = .ok (.getfield 11, 3) := by decide +kernel
set_option maxRecDepth 20000 in
theorem dX1_loadTable_56 : decode cX1_loadTable 56 = .ok (.iload_n 3, 1) := by decide +kernel
set_option maxRecDepth 20000 in
theorem dX1_loadTable_57 : decode cX1_loadTable 57 = .ok (.aaload, 1) := by decide +kernel
set_option maxRecDepth 20000 in
theorem dX1_loadTable_58 : decode cX1_loadTable 58 = .ok (.iload 4, 2) := by decide +kernel
set_option maxRecDepth 20000 in
theorem dX1_loadTable_60 : decode cX1_loadTable 60 = .ok (.aload_n 1, 1) := by decide +kernel
set_option maxRecDepth 20000 in
theorem dX1_loadTable_61 : decode cX1_loadTable 61 = .ok (.iload_n 2, 1) := by decide +kernel
set_option maxRecDepth 20000 in
theorem dX1_loadTable_62 : decode cX1_loadTable 62 = .ok (.iload_n 3, 1) := by decide +kernel
set_option maxRecDepth 20000 in
theorem dX1_loadTable_63 : decode cX1_loadTable 63 = .ok (.iload 4, 2) := by decide +kernel
set_option maxRecDepth 20000 in
theorem dX1_loadTable_65 : decode cX1_loadTable 65 = .ok (.invokevirtual 37, 3) := by decide +kernel
set_option maxRecDepth 20000 in
theorem dX1_loadTable_68 : decode cX1_loadTable 68 = .ok (.i2l, 1) := by decide +kernel
set_option maxRecDepth 20000 in
theorem dX1_loadTable_69 : decode cX1_loadTable 69 = .ok (.lastore, 1) := by decide +kernel
set_option maxRecDepth 20000 in
theorem dX1_loadTable_70 : decode cX1_loadTable 70 = .ok (.iinc 4 1, 3) := by decide +kernel
set_option maxRecDepth 20000 in
theorem dX1_loadTable_73 : decode cX1_loadTable 73 = .ok (.goto (-30), 3) := by decide +kernel
set_option maxRecDepth 20000 in
theorem dX1_loadTable_76 : decode cX1_loadTable 76 = .ok (.iinc 3 1, 3) := by decide +kernel
set_option maxRecDepth 20000 in
theorem dX1_loadTable_79 : decode cX1_loadTable 79 = .ok (.goto (-47), 3) := by decide +kernel
set_option maxRecDepth 20000 in
theorem dX1_loadTable_82 : decode cX1_loadTable 82 = .ok (.return_, 1) := by decide +kernel
set_option maxRecDepth 20000 in
theorem dX1_loadNear_0 : decode cX1_loadNear 0 = .ok (.aload_n 0, 1) := by decide +kernel
set_option maxRecDepth 20000 in
theorem dX1_loadNear_1 : decode cX1_loadNear 1 = .ok (.aload_n 1, 1) := by decide +kernel
set_option maxRecDepth 20000 in
theorem dX1_loadNear_2 : decode cX1_loadNear 2 = .ok (.iload_n 2, 1) := by decide +kernel
set_option maxRecDepth 20000 in
theorem dX1_loadNear_3 : decode cX1_loadNear 3 = .ok (.ifCond .ne 7, 3) := by decide +kernel
set_option maxRecDepth 20000 in
theorem dX1_loadNear_6 : decode cX1_loadNear 6 = .ok (.iconst 0, 1) := by decide +kernel
set_option maxRecDepth 20000 in
theorem dX1_loadNear_7 : decode cX1_loadNear 7 = .ok (.goto 4, 3) := by decide +kernel
set_option maxRecDepth 20000 in
theorem dX1_loadNear_10 : decode cX1_loadNear 10 = .ok (.iconst 1, 1) := by decide +kernel
set_option maxRecDepth 20000 in
theorem dX1_loadNear_11 : decode cX1_loadNear 11 = .ok (.invokevirtual 25, 3) := by decide +kernel
set_option maxRecDepth 20000 in
theorem dX1_loadNear_14 : decode cX1_loadNear 14 = .ok (.bipush 6, 2) := by decide +kernel
set_option maxRecDepth 20000 in
theorem dX1_loadNear_16 : decode cX1_loadNear 16 = .ok (.invokestatic 31, 3) := by decide +kernel
set_option maxRecDepth 20000 in
theorem dX1_loadNear_19 : decode cX1_loadNear 19 = .ok (.putfield 18, 3) := by decide +kernel
set_option maxRecDepth 20000 in
theorem dX1_loadNear_22 : decode cX1_loadNear 22 = .ok (.aload_n 0, 1) := by decide +kernel
set_option maxRecDepth 20000 in
theorem dX1_loadNear_23 : decode cX1_loadNear 23 = .ok (.aload_n 0, 1) := by decide +kernel
set_option maxRecDepth 20000 in
theorem dX1_loadNear_24 : decode cX1_loadNear 24 = .ok (.getfield 18, 3) := by decide +kernel
set_option maxRecDepth 20000 in
theorem dX1_loadNear_27 : decode cX1_loadNear 27 = .ok (.putfield 22, 3) := by decide +kernel
set_option maxRecDepth 20000 in
theorem dX1_loadNear_30 : decode cX1_loadNear 30 = .ok (.iconst 0, 1) := by decide +kernel
set_option maxRecDepth 20000 in
theorem dX1_loadNear_31 : decode cX1_loadNear 31 = .ok (.istore_n 3, 1) := by decide +kernel
set_option maxRecDepth 20000 in
theorem dX1_loadNear_32 : decode cX1_loadNear 32 = .ok (.iload_n 3, 1) := by decide +kernel
set_option maxRecDepth 20000 in
theorem dX1_loadNear_33 : decode cX1_loadNear 33 = .ok (.aload_n 0, 1) := by decide +kernel
set_option maxRecDepth 20000 in
theorem dX1_loadNear_34 : decode cX1_loadNear 34 = .ok (.getfield 18, 3) := by decide +kernel
set_option maxRecDepth 20000 in
theorem dX1_loadNear_37 : decode cX1_loadNear 37 = .ok (.if_icmp .ge 45, 3) := by decide +kernel
set_option maxRecDepth 20000 in
theorem dX1_loadNear_40 : decode cX1_loadNear 40 = .ok (.iconst 0, 1) := by decide +kernel
set_option maxRecDepth 20000 in
theorem dX1_loadNear_41 : decode cX1_loadNear 41 = .ok (.istore 4, 2) := by decide +kernel
set_option maxRecDepth 20000 in
theorem dX1_loadNear_43 : decode cX1_loadNear 43 = .ok (.iload 4, 2) := by decide +kernel
set_option maxRecDepth 20000 in
theorem dX1_loadNear_45 : decode cX1_loadNear 45 = .ok (.aload_n 0, 1) := by decide +kernel
set_option maxRecDepth 20000 in
theorem dX1_loadNear_46 : decode cX1_loadNear 46 = .ok (.getfield 22, 3) := by decide +kernel
set_option maxRecDepth 20000 in
theorem dX1_loadNear_49 : decode cX1_loadNear 49 = .ok (.if_icmp .ge 27, 3) := by decide +kernel
set_option maxRecDepth 20000 in
theorem dX1_loadNear_52 : decode cX1_loadNear 52 = .ok (.aload_n 0, 1) := by decide +kernel
set_option maxRecDepth 20000 in
theorem dX1_loadNear_53 : decode cX1_loadNear 53 = .ok (.getfield 11, 3) := by decide +kernel
set_option maxRecDepth 20000 in
theorem dX1_loadNear_56 : decode cX1_loadNear 56 = .ok (.iload_n 3, 1) := by decide +kernel
set_option maxRecDepth 20000 in
theorem dX1_loadNear_57 : decode cX1_loadNear 57 = .ok (.aaload, 1) := by decide +kernel
set_option maxRecDepth 20000 in
theorem dX1_loadNear_58 : decode cX1_loadNear 58 = .ok (.iload 4, 2) := by decide +kernel
set_option maxRecDepth 20000 in
theorem dX1_loadNear_60 : decode cX1_loadNear 60 = .ok (.aload_n 1, 1) := by decide +kernel
set_option maxRecDepth 20000 in
theorem dX1_loadNear_61 : decode cX1_loadNear 61 = .ok (.iload_n 2, 1) := by decide +kernel
set_option maxRecDepth 20000 in
theorem dX1_loadNear_62 : decode cX1_loadNear 62 = .ok (.iload_n 3, 1) := by decide +kernel
set_option maxRecDepth 20000 in
theorem dX1_loadNear_63 : decode cX1_loadNear 63 = .ok (.iload 4, 2) := by decide +kernel
set_option maxRecDepth 20000 in
theorem dX1_loadNear_65 : decode cX1_loadNear 65 = .ok (.invokevirtual 41, 3) := by decide +kernel
set_option maxRecDepth 20000 in
theorem dX1_loadNear_68 : decode cX1_loadNear 68 = .ok (.i2l, 1) := by decide +kernel
set_option maxRecDepth 20000 in
theorem dX1_loadNear_69 : decode cX1_loadNear 69 = .ok (.lastore, 1) := by decide +kernel
set_option maxRecDepth 20000 in
theorem dX1_loadNear_70 : decode cX1_loadNear 70 = .ok (.iinc 4 1, 3) := by decide +kernel
set_option maxRecDepth 20000 in
theorem dX1_loadNear_73 : decode cX1_loadNear 73 = .ok (.goto (-30), 3) := by decide +kernel
set_option maxRecDepth 20000 in
theorem dX1_loadNear_76 : decode cX1_loadNear 76 = .ok (.iinc 3 1, 3) := by decide +kernel
set_option maxRecDepth 20000 in
theorem dX1_loadNear_79 : decode cX1_loadNear 79 = .ok (.goto (-47), 3) := by decide +kernel
set_option maxRecDepth 20000 in
theorem dX1_loadNear_82 : decode cX1_loadNear 82 = .ok (.return_, 1) := by decide +kernel
set_option maxRecDepth 20000 in
theorem dX1_addChain_0 : decode cX1_addChain 0 = .ok (.aload_n 0, 1) := by decide +kernel
set_option maxRecDepth 20000 in
theorem dX1_addChain_1 : decode cX1_addChain 1 = .ok (.getfield 22, 3) := by decide +kernel
set_option maxRecDepth 20000 in
theorem dX1_addChain_4 : decode cX1_addChain 4 = .ok (.bipush 6, 2) := by decide +kernel
set_option maxRecDepth 20000 in
theorem dX1_addChain_6 : decode cX1_addChain 6 = .ok (.invokestatic 44, 3) := by decide +kernel
set_option maxRecDepth 20000 in
theorem dX1_addChain_9 : decode cX1_addChain 9 = .ok (.ifCond .ne 4, 3) := by decide +kernel
set_option maxRecDepth 20000 in
theorem dX1_addChain_12 : decode cX1_addChain 12 = .ok (.return_, 1) := by decide +kernel
set_option maxRecDepth 20000 in
theorem dX1_addChain_13 : decode cX1_addChain 13 = .ok (.iconst 0, 1) := by decide +kernel
set_option maxRecDepth 20000 in
theorem dX1_addChain_14 : decode cX1_addChain 14 = .ok (.istore_n 3, 1) := by decide +kernel
set_option maxRecDepth 20000 in
theorem dX1_addChain_15 : decode cX1_addChain 15 = .ok (.iload_n 3, 1) := by decide +kernel
set_option maxRecDepth 20000 in
theorem dX1_addChain_16 : decode cX1_addChain 16 = .ok (.aload_n 0, 1) := by decide +kernel
set_option maxRecDepth 20000 in
theorem dX1_addChain_17 : decode cX1_addChain 17 = .ok (.getfield 18, 3) := by decide +kernel
set_option maxRecDepth 20000 in
theorem dX1_addChain_20 : decode cX1_addChain 20 = .ok (.if_icmp .ge 27, 3) := by decide +kernel
set_option maxRecDepth 20000 in
theorem dX1_addChain_23 : decode cX1_addChain 23 = .ok (.aload_n 0, 1) := by decide +kernel
set_option maxRecDepth 20000 in
theorem dX1_addChain_24 : decode cX1_addChain 24 = .ok (.getfield 11, 3) := by decide +kernel
set_option maxRecDepth 20000 in
theorem dX1_addChain_27 : decode cX1_addChain 27 = .ok (.iload_n 3, 1) := by decide +kernel
set_option maxRecDepth 20000 in
theorem dX1_addChain_28 : decode cX1_addChain 28 = .ok (.aaload, 1) := by decide +kernel
set_option maxRecDepth 20000 in
theorem dX1_addChain_29 : decode cX1_addChain 29 = .ok (.aload_n 0, 1) := by decide +kernel
set_option maxRecDepth 20000 in
theorem dX1_addChain_30 : decode cX1_addChain 30 = .ok (.getfield 22, 3) := by decide +kernel
set_option maxRecDepth 20000 in
theorem dX1_addChain_33 : decode cX1_addChain 33 = .ok (.aload_n 1, 1) := by decide +kernel
set_option maxRecDepth 20000 in
theorem dX1_addChain_34 : decode cX1_addChain 34 = .ok (.iload_n 2, 1) := by decide +kernel
set_option maxRecDepth 20000 in
theorem dX1_addChain_35 : decode cX1_addChain 35 = .ok (.iload_n 3, 1) := by decide +kernel
set_option maxRecDepth 20000 in
theorem dX1_addChain_36 : decode cX1_addChain 36 = .ok (.invokevirtual 50, 3) := by decide +kernel
set_option maxRecDepth 20000 in
theorem dX1_addChain_39 : decode cX1_addChain 39 = .ok (.i2l, 1) := by decide +kernel
set_option maxRecDepth 20000 in
theorem dX1_addChain_40 : decode cX1_addChain 40 = .ok (.lastore, 1) := by decide +kernel
set_option maxRecDepth 20000 in
theorem dX1_addChain_41 : decode cX1_addChain 41 = .ok (.iinc 3 1, 3) := by decide +kernel
set_option maxRecDepth 20000 in
theorem dX1_addChain_44 : decode cX1_addChain 44 = .ok (.goto (-29), 3) := by decide +kernel
set_option maxRecDepth 20000 in
theorem dX1_addChain_47 : decode cX1_addChain 47 = .ok (.aload_n 0, 1) := by decide +kernel
set_option maxRecDepth 20000 in
theorem dX1_addChain_48 : decode cX1_addChain 48 = .ok (.dup, 1) := by decide +kernel
set_option maxRecDepth 20000 in
theorem dX1_addChain_49 : decode cX1_addChain 49 = .ok (.getfield 22, 3) := by decide +kernel
set_option maxRecDepth 20000 in
theorem dX1_addChain_52 : decode cX1_addChain 52 = .ok (.iconst 1, 1) := by decide +kernel
set_option maxRecDepth 20000 in
theorem dX1_addChain_53 : decode cX1_addChain 53 = .ok (.iadd, 1) := by decide +kernel
set_option maxRecDepth 20000 in
theorem dX1_addChain_54 : decode cX1_addChain 54 = .ok (.putfield 22, 3) := by decide +kernel
set_option maxRecDepth 20000 in
theorem dX1_addChain_57 : decode cX1_addChain 57 = .ok (.return_, 1) := by decide +kernel
set_option maxRecDepth 20000 in
theorem dX1_allColumns_0 : decode cX1_allColumns 0 = .ok (.iconst 1, 1) := by decide +kernel
set_option maxRecDepth 20000 in
theorem dX1_allColumns_1 : decode cX1_allColumns 1 = .ok (.aload_n 0, 1) := by decide +kernel
set_option maxRecDepth 20000 in
theorem dX1_allColumns_2 : decode cX1_allColumns 2 = .ok (.getfield 22, 3) := by decide +kernel
set_option maxRecDepth 20000 in
theorem dX1_allColumns_5 : decode cX1_allColumns 5 = .ok (.ishl, 1) := by decide +kernel
set_option maxRecDepth 20000 in
theorem dX1_allColumns_6 : decode cX1_allColumns 6 = .ok (.iconst 1, 1) := by decide +kernel
set_option maxRecDepth 20000 in
theorem dX1_allColumns_7 : decode cX1_allColumns 7 = .ok (.isub, 1) := by decide +kernel
set_option maxRecDepth 20000 in
theorem dX1_allColumns_8 : decode cX1_allColumns 8 = .ok (.ireturn, 1) := by decide +kernel
set_option maxRecDepth 20000 in
theorem dX1_minorOf_0 : decode cX1_minorOf 0 = .ok (.iload_n 1, 1) := by decide +kernel
set_option maxRecDepth 20000 in
theorem dX1_minorOf_1 : decode cX1_minorOf 1 = .ok (.bipush 64, 2) := by decide +kernel
set_option maxRecDepth 20000 in
theorem dX1_minorOf_3 : decode cX1_minorOf 3 = .ok (.imul, 1) := by decide +kernel
set_option maxRecDepth 20000 in
theorem dX1_minorOf_4 : decode cX1_minorOf 4 = .ok (.iload_n 2, 1) := by decide +kernel
set_option maxRecDepth 20000 in
theorem dX1_minorOf_5 : decode cX1_minorOf 5 = .ok (.iadd, 1) := by decide +kernel
set_option maxRecDepth 20000 in
theorem dX1_minorOf_6 : decode cX1_minorOf 6 = .ok (.istore_n 3, 1) := by decide +kernel
set_option maxRecDepth 20000 in
theorem dX1_minorOf_7 : decode cX1_minorOf 7 = .ok (.iload_n 3, 1) := by decide +kernel
set_option maxRecDepth 20000 in
theorem dX1_minorOf_8 : decode cX1_minorOf 8 = .ok (.aload_n 0, 1) := by decide +kernel
set_option maxRecDepth 20000 in
theorem dX1_minorOf_9 : decode cX1_minorOf 9 = .ok (.getfield 14, 3) := by decide +kernel
set_option maxRecDepth 20000 in
theorem dX1_minorOf_12 : decode cX1_minorOf 12 = .ok (.arraylength, 1) := by decide +kernel
set_option maxRecDepth 20000 in
theorem dX1_minorOf_13 : decode cX1_minorOf 13 = .ok (.invokestatic 44, 3) := by decide +kernel
set_option maxRecDepth 20000 in
theorem dX1_minorOf_16 : decode cX1_minorOf 16 = .ok (.ifCond .eq 12, 3) := by decide +kernel
set_option maxRecDepth 20000 in
theorem dX1_minorOf_19 : decode cX1_minorOf 19 = .ok (.aload_n 0, 1) := by decide +kernel
set_option maxRecDepth 20000 in
theorem dX1_minorOf_20 : decode cX1_minorOf 20 = .ok (.getfield 14, 3) := by decide +kernel
set_option maxRecDepth 20000 in
theorem dX1_minorOf_23 : decode cX1_minorOf 23 = .ok (.iload_n 3, 1) := by decide +kernel
set_option maxRecDepth 20000 in
theorem dX1_minorOf_24 : decode cX1_minorOf 24 = .ok (.laload, 1) := by decide +kernel
set_option maxRecDepth 20000 in
theorem dX1_minorOf_25 : decode cX1_minorOf 25 = .ok (.goto 4, 3) := by decide +kernel
set_option maxRecDepth 20000 in
theorem dX1_minorOf_28 : decode cX1_minorOf 28 = .ok (.lconst 0, 1) := by decide +kernel
set_option maxRecDepth 20000 in
theorem dX1_minorOf_29 : decode cX1_minorOf 29 = .ok (.lreturn, 1) := by decide +kernel
set_option maxRecDepth 20000 in
theorem dX1_fillMinors_0 : decode cX1_fillMinors 0 = .ok (.aload_n 0, 1) := by decide +kernel
set_option maxRecDepth 20000 in
theorem dX1_fillMinors_1 : decode cX1_fillMinors 1 = .ok (.getfield 14, 3) := by decide +kernel
set_option maxRecDepth 20000 in
theorem dX1_fillMinors_4 : decode cX1_fillMinors 4 = .ok (.iconst 0, 1) := by decide +kernel
set_option maxRecDepth 20000 in
theorem dX1_fillMinors_5 : decode cX1_fillMinors 5 = .ok (.lconst 1, 1) := by decide +kernel
set_option maxRecDepth 20000 in
theorem dX1_fillMinors_6 : decode cX1_fillMinors 6 = .ok (.lastore, 1) := by decide +kernel
set_option maxRecDepth 20000 in
theorem dX1_fillMinors_7 : decode cX1_fillMinors 7 = .ok (.iconst 1, 1) := by decide +kernel
set_option maxRecDepth 20000 in
theorem dX1_fillMinors_8 : decode cX1_fillMinors 8 = .ok (.istore_n 1, 1) := by decide +kernel
set_option maxRecDepth 20000 in
theorem dX1_fillMinors_9 : decode cX1_fillMinors 9 = .ok (.iload_n 1, 1) := by decide +kernel
set_option maxRecDepth 20000 in
theorem dX1_fillMinors_10 : decode cX1_fillMinors 10 = .ok (.iconst 1, 1) := by decide +kernel
set_option maxRecDepth 20000 in
theorem dX1_fillMinors_11 : decode cX1_fillMinors 11 = .ok (.aload_n 0, 1) := by decide +kernel
set_option maxRecDepth 20000 in
theorem dX1_fillMinors_12 : decode cX1_fillMinors 12 = .ok (.getfield 18, 3) := by decide +kernel
set_option maxRecDepth 20000 in
theorem dX1_fillMinors_15 : decode cX1_fillMinors 15 = .ok (.ishl, 1) := by decide +kernel
set_option maxRecDepth 20000 in
theorem dX1_fillMinors_16 : decode cX1_fillMinors 16 = .ok (.if_icmp .ge 74, 3) := by decide +kernel
set_option maxRecDepth 20000 in
theorem dX1_fillMinors_19 : decode cX1_fillMinors 19 = .ok (.iload_n 1, 1) := by decide +kernel
set_option maxRecDepth 20000 in
theorem dX1_fillMinors_20 : decode cX1_fillMinors 20 = .ok (.invokestatic 53, 3) := by decide +kernel
set_option maxRecDepth 20000 in
theorem dX1_fillMinors_23 : decode cX1_fillMinors 23 = .ok (.istore_n 2, 1) := by decide +kernel
set_option maxRecDepth 20000 in
theorem dX1_fillMinors_24 : decode cX1_fillMinors 24 = .ok (.iconst 1, 1) := by decide +kernel
set_option maxRecDepth 20000 in
theorem dX1_fillMinors_25 : decode cX1_fillMinors 25 = .ok (.istore_n 3, 1) := by decide +kernel
set_option maxRecDepth 20000 in
theorem dX1_fillMinors_26 : decode cX1_fillMinors 26 = .ok (.iload_n 3, 1) := by decide +kernel
set_option maxRecDepth 20000 in
theorem dX1_fillMinors_27 : decode cX1_fillMinors 27 = .ok (.iconst 1, 1) := by decide +kernel
set_option maxRecDepth 20000 in
theorem dX1_fillMinors_28 : decode cX1_fillMinors 28 = .ok (.aload_n 0, 1) := by decide +kernel
set_option maxRecDepth 20000 in
theorem dX1_fillMinors_29 : decode cX1_fillMinors 29 = .ok (.getfield 22, 3) := by decide +kernel
set_option maxRecDepth 20000 in
theorem dX1_fillMinors_32 : decode cX1_fillMinors 32 = .ok (.ishl, 1) := by decide +kernel
set_option maxRecDepth 20000 in
theorem dX1_fillMinors_33 : decode cX1_fillMinors 33 = .ok (.if_icmp .ge 51, 3) := by decide +kernel
set_option maxRecDepth 20000 in
theorem dX1_fillMinors_36 : decode cX1_fillMinors 36 = .ok (.iload_n 1, 1) := by decide +kernel
set_option maxRecDepth 20000 in
theorem dX1_fillMinors_37 : decode cX1_fillMinors 37 = .ok (.bipush 64, 2) := by decide +kernel
set_option maxRecDepth 20000 in
theorem dX1_fillMinors_39 : decode cX1_fillMinors 39 = .ok (.imul, 1) := by decide +kernel
set_option maxRecDepth 20000 in
theorem dX1_fillMinors_40 : decode cX1_fillMinors 40 = .ok (.iload_n 3, 1) := by decide +kernel
set_option maxRecDepth 20000 in
theorem dX1_fillMinors_41 : decode cX1_fillMinors 41 = .ok (.iadd, 1) := by decide +kernel
set_option maxRecDepth 20000 in
theorem dX1_fillMinors_42 : decode cX1_fillMinors 42 = .ok (.istore 4, 2) := by decide +kernel
set_option maxRecDepth 20000 in
theorem dX1_fillMinors_44 : decode cX1_fillMinors 44 = .ok (.iload_n 3, 1) := by decide +kernel
set_option maxRecDepth 20000 in
theorem dX1_fillMinors_45 : decode cX1_fillMinors 45 = .ok (.invokestatic 53, 3) := by decide +kernel
set_option maxRecDepth 20000 in
theorem dX1_fillMinors_48 : decode cX1_fillMinors 48 = .ok (.iload_n 2, 1) := by decide +kernel
set_option maxRecDepth 20000 in
theorem dX1_fillMinors_49 : decode cX1_fillMinors 49 = .ok (.if_icmp .ne 29, 3) := by decide +kernel
set_option maxRecDepth 20000 in
theorem dX1_fillMinors_52 : decode cX1_fillMinors 52 = .ok (.iload 4, 2) := by decide +kernel
set_option maxRecDepth 20000 in
theorem dX1_fillMinors_54 : decode cX1_fillMinors 54 = .ok (.aload_n 0, 1) := by decide +kernel
set_option maxRecDepth 20000 in
theorem dX1_fillMinors_55 : decode cX1_fillMinors 55 = .ok (.getfield 14, 3) := by decide +kernel
set_option maxRecDepth 20000 in
theorem dX1_fillMinors_58 : decode cX1_fillMinors 58 = .ok (.arraylength, 1) := by decide +kernel
set_option maxRecDepth 20000 in
theorem dX1_fillMinors_59 : decode cX1_fillMinors 59 = .ok (.invokestatic 44, 3) := by decide +kernel
set_option maxRecDepth 20000 in
theorem dX1_fillMinors_62 : decode cX1_fillMinors 62 = .ok (.ifCond .eq 16, 3) := by decide +kernel
set_option maxRecDepth 20000 in
theorem dX1_fillMinors_65 : decode cX1_fillMinors 65 = .ok (.aload_n 0, 1) := by decide +kernel
set_option maxRecDepth 20000 in
theorem dX1_fillMinors_66 : decode cX1_fillMinors 66 = .ok (.getfield 14, 3) := by decide +kernel
set_option maxRecDepth 20000 in
theorem dX1_fillMinors_69 : decode cX1_fillMinors 69 = .ok (.iload 4, 2) := by decide +kernel
set_option maxRecDepth 20000 in
theorem dX1_fillMinors_71 : decode cX1_fillMinors 71 = .ok (.aload_n 0, 1) := by decide +kernel
set_option maxRecDepth 20000 in
theorem dX1_fillMinors_72 : decode cX1_fillMinors 72 = .ok (.iload_n 1, 1) := by decide +kernel
set_option maxRecDepth 20000 in
theorem dX1_fillMinors_73 : decode cX1_fillMinors 73 = .ok (.iload_n 3, 1) := by decide +kernel
set_option maxRecDepth 20000 in
theorem dX1_fillMinors_74 : decode cX1_fillMinors 74 = .ok (.invokevirtual 58, 3) := by decide +kernel
set_option maxRecDepth 20000 in
theorem dX1_fillMinors_77 : decode cX1_fillMinors 77 = .ok (.lastore, 1) := by decide +kernel
set_option maxRecDepth 20000 in
theorem dX1_fillMinors_78 : decode cX1_fillMinors 78 = .ok (.iinc 3 1, 3) := by decide +kernel
set_option maxRecDepth 20000 in
theorem dX1_fillMinors_81 : decode cX1_fillMinors 81 = .ok (.goto (-55), 3) := by decide +kernel
set_option maxRecDepth 20000 in
theorem dX1_fillMinors_84 : decode cX1_fillMinors 84 = .ok (.iinc 1 1, 3) := by decide +kernel
set_option maxRecDepth 20000 in
theorem dX1_fillMinors_87 : decode cX1_fillMinors 87 = .ok (.goto (-78), 3) := by decide +kernel
set_option maxRecDepth 20000 in
theorem dX1_fillMinors_90 : decode cX1_fillMinors 90 = .ok (.return_, 1) := by decide +kernel
set_option maxRecDepth 20000 in
theorem dX1_expandedMinor_0 : decode cX1_expandedMinor 0 = .ok (.iload_n 1, 1) := by decide +kernel
set_option maxRecDepth 20000 in
theorem dX1_expandedMinor_1 : decode cX1_expandedMinor 1 = .ok (.iload_n 1, 1) := by decide +kernel
set_option maxRecDepth 20000 in
theorem dX1_expandedMinor_2 : decode cX1_expandedMinor 2 = .ok (.ineg, 1) := by decide +kernel
set_option maxRecDepth 20000 in
theorem dX1_expandedMinor_3 : decode cX1_expandedMinor 3 = .ok (.iand, 1) := by decide +kernel
set_option maxRecDepth 20000 in
theorem dX1_expandedMinor_4 : decode cX1_expandedMinor 4 = .ok (.istore_n 3, 1) := by decide +kernel
set_option maxRecDepth 20000 in
theorem dX1_expandedMinor_5 : decode cX1_expandedMinor 5 = .ok (.iload_n 3, 1) := by decide +kernel
set_option maxRecDepth 20000 in
theorem dX1_expandedMinor_6 : decode cX1_expandedMinor 6 = .ok (.iconst 1, 1) := by decide +kernel
set_option maxRecDepth 20000 in
theorem dX1_expandedMinor_7 : decode cX1_expandedMinor 7 = .ok (.isub, 1) := by decide +kernel
set_option maxRecDepth 20000 in
theorem dX1_expandedMinor_8 : decode cX1_expandedMinor 8 = .ok (.invokestatic 53, 3) := by decide +kernel
set_option maxRecDepth 20000 in
theorem dX1_expandedMinor_11 : decode cX1_expandedMinor 11 = .ok (.istore 4, 2) := by decide +kernel
set_option maxRecDepth 20000 in
theorem dX1_expandedMinor_13 : decode cX1_expandedMinor 13 = .ok (.iload 4, 2) := by decide +kernel
set_option maxRecDepth 20000 in
theorem dX1_expandedMinor_15 : decode cX1_expandedMinor 15 = .ok (.bipush 6, 2) := by decide +kernel
set_option maxRecDepth 20000 in
theorem dX1_expandedMinor_17 : decode cX1_expandedMinor 17 = .ok (.invokestatic 44, 3) := by decide +kernel
set_option maxRecDepth 20000 in
theorem dX1_expandedMinor_20 : decode cX1_expandedMinor 20 = .ok (.ifCond .ne 5, 3) := by decide +kernel
set_option maxRecDepth 20000 in
theorem dX1_expandedMinor_23 : decode cX1_expandedMinor 23 = .ok (.lconst 0, 1) := by decide +kernel
set_option maxRecDepth 20000 in
theorem dX1_expandedMinor_24 : decode cX1_expandedMinor 24 = .ok (.lreturn, 1) := by decide +kernel
set_option maxRecDepth 20000 in
theorem dX1_expandedMinor_25 : decode cX1_expandedMinor 25 = .ok (.lconst 0, 1) := by decide +kernel
set_option maxRecDepth 20000 in
theorem dX1_expandedMinor_26 : decode cX1_expandedMinor 26 = .ok (.lstore 5, 2) := by decide +kernel
set_option maxRecDepth 20000 in
theorem dX1_expandedMinor_28 : decode cX1_expandedMinor 28 = .ok (.lconst 1, 1) := by decide +kernel
set_option maxRecDepth 20000 in
theorem dX1_expandedMinor_29 : decode cX1_expandedMinor 29 = .ok (.lstore 7, 2) := by decide +kernel
set_option maxRecDepth 20000 in
theorem dX1_expandedMinor_31 : decode cX1_expandedMinor 31 = .ok (.iconst 0, 1) := by decide +kernel
set_option maxRecDepth 20000 in
theorem dX1_expandedMinor_32 : decode cX1_expandedMinor 32 = .ok (.istore 9, 2) := by decide +kernel
set_option maxRecDepth 20000 in
theorem dX1_expandedMinor_34 : decode cX1_expandedMinor 34 = .ok (.iload 9, 2) := by decide +kernel
set_option maxRecDepth 20000 in
theorem dX1_expandedMinor_36 : decode cX1_expandedMinor 36 = .ok (.aload_n 0, 1) := by decide +kernel
set_option maxRecDepth 20000 in
theorem dX1_expandedMinor_37 : decode cX1_expandedMinor 37 = .ok (.getfield 22, 3) := by decide +kernel
set_option maxRecDepth 20000 in
theorem dX1_expandedMinor_40 : decode cX1_expandedMinor 40 = .ok (.if_icmp .ge 72, 3) := by decide +kernel
set_option maxRecDepth 20000 in
theorem dX1_expandedMinor_43 : decode cX1_expandedMinor 43 = .ok (.iconst 1, 1) := by decide +kernel
set_option maxRecDepth 20000 in
theorem dX1_expandedMinor_44 : decode cX1_expandedMinor 44 = .ok (.iload 9, 2) := by decide +kernel
set_option maxRecDepth 20000 in
theorem dX1_expandedMinor_46 : decode cX1_expandedMinor 46 = .ok (.ishl, 1) := by decide +kernel
set_option maxRecDepth 20000 in
theorem dX1_expandedMinor_47 : decode cX1_expandedMinor 47 = .ok (.istore 10, 2) := by decide +kernel
set_option maxRecDepth 20000 in
theorem dX1_expandedMinor_49 : decode cX1_expandedMinor 49 = .ok (.iload_n 2, 1) := by decide +kernel
set_option maxRecDepth 20000 in
theorem dX1_expandedMinor_50 : decode cX1_expandedMinor 50 = .ok (.iload 10, 2) := by decide +kernel
set_option maxRecDepth 20000 in
theorem dX1_expandedMinor_52 : decode cX1_expandedMinor 52 = .ok (.iand, 1) := by decide +kernel
set_option maxRecDepth 20000 in
theorem dX1_expandedMinor_53 : decode cX1_expandedMinor 53 = .ok (.ifCond .eq 53, 3) := by decide +kernel
set_option maxRecDepth 20000 in
theorem dX1_expandedMinor_56 : decode cX1_expandedMinor 56 = .ok (.aload_n 0, 1) := by decide +kernel
set_option maxRecDepth 20000 in
theorem dX1_expandedMinor_57 : decode cX1_expandedMinor 57 = .ok (.getfield 11, 3) := by decide +kernel
set_option maxRecDepth 20000 in
theorem dX1_expandedMinor_60 : decode cX1_expandedMinor 60 = .ok (.iload 4, 2) := by decide +kernel
set_option maxRecDepth 20000 in
theorem dX1_expandedMinor_62 : decode cX1_expandedMinor 62 = .ok (.aaload, 1) := by decide +kernel
set_option maxRecDepth 20000 in
theorem dX1_expandedMinor_63 : decode cX1_expandedMinor 63 = .ok (.iload 9, 2) := by decide +kernel
set_option maxRecDepth 20000 in
theorem dX1_expandedMinor_65 : decode cX1_expandedMinor 65 = .ok (.laload, 1) := by decide +kernel
set_option maxRecDepth 20000 in
theorem dX1_expandedMinor_66 : decode cX1_expandedMinor 66 = .ok (.lconst 0, 1) := by decide +kernel
set_option maxRecDepth 20000 in
theorem dX1_expandedMinor_67 : decode cX1_expandedMinor 67 = .ok (.lcmp, 1) := by decide +kernel
set_option maxRecDepth 20000 in
theorem dX1_expandedMinor_68 : decode cX1_expandedMinor 68 = .ok (.ifCond .eq 33, 3) := by decide +kernel
set_option maxRecDepth 20000 in
theorem dX1_expandedMinor_71 : decode cX1_expandedMinor 71 = .ok (.lload 5, 2) := by decide +kernel
set_option maxRecDepth 20000 in
theorem dX1_expandedMinor_73 : decode cX1_expandedMinor 73 = .ok (.lload 7, 2) := by decide +kernel
set_option maxRecDepth 20000 in
theorem dX1_expandedMinor_75 : decode cX1_expandedMinor 75 = .ok (.aload_n 0, 1) := by decide +kernel
set_option maxRecDepth 20000 in
theorem dX1_expandedMinor_76 : decode cX1_expandedMinor 76 = .ok (.getfield 11, 3) := by decide +kernel
set_option maxRecDepth 20000 in
theorem dX1_expandedMinor_79 : decode cX1_expandedMinor 79 = .ok (.iload 4, 2) := by decide +kernel
set_option maxRecDepth 20000 in
theorem dX1_expandedMinor_81 : decode cX1_expandedMinor 81 = .ok (.aaload, 1) := by decide +kernel
set_option maxRecDepth 20000 in
theorem dX1_expandedMinor_82 : decode cX1_expandedMinor 82 = .ok (.iload 9, 2) := by decide +kernel
set_option maxRecDepth 20000 in
theorem dX1_expandedMinor_84 : decode cX1_expandedMinor 84 = .ok (.laload, 1) := by decide +kernel
set_option maxRecDepth 20000 in
theorem dX1_expandedMinor_85 : decode cX1_expandedMinor 85 = .ok (.lmul, 1) := by decide +kernel
set_option maxRecDepth 20000 in
theorem dX1_expandedMinor_86 : decode cX1_expandedMinor 86 = .ok (.aload_n 0, 1) := by decide +kernel
set_option maxRecDepth 20000 in
theorem dX1_expandedMinor_87 : decode cX1_expandedMinor 87 = .ok (.iload_n 1, 1) := by decide +kernel
set_option maxRecDepth 20000 in
theorem dX1_expandedMinor_88 : decode cX1_expandedMinor 88 = .ok (.iload_n 3, 1) := by decide +kernel
set_option maxRecDepth 20000 in
theorem dX1_expandedMinor_89 : decode cX1_expandedMinor 89 = .ok (.isub, 1) := by decide +kernel
set_option maxRecDepth 20000 in
theorem dX1_expandedMinor_90 : decode cX1_expandedMinor 90 = .ok (.iload_n 2, 1) := by decide +kernel
set_option maxRecDepth 20000 in
theorem dX1_expandedMinor_91 : decode cX1_expandedMinor 91 = .ok (.iload 10, 2) := by decide +kernel
set_option maxRecDepth 20000 in
theorem dX1_expandedMinor_93 : decode cX1_expandedMinor 93 = .ok (.isub, 1) := by decide +kernel
set_option maxRecDepth 20000 in
theorem dX1_expandedMinor_94 : decode cX1_expandedMinor 94 = .ok (.invokevirtual 62, 3) := by decide +kernel
set_option maxRecDepth 20000 in
theorem dX1_expandedMinor_97 : decode cX1_expandedMinor 97 = .ok (.lmul, 1) := by decide +kernel
set_option maxRecDepth 20000 in
theorem dX1_expandedMinor_98 : decode cX1_expandedMinor 98 = .ok (.ladd, 1) := by decide +kernel
set_option maxRecDepth 20000 in
theorem dX1_expandedMinor_99 : decode cX1_expandedMinor 99 = .ok (.lstore 5, 2) := by decide +kernel
set_option maxRecDepth 20000 in
theorem dX1_expandedMinor_101 : decode cX1_expandedMinor 101 = .ok (.lload 7, 2) := by decide +kernel
set_option maxRecDepth 20000 in
theorem dX1_expandedMinor_103 : decode cX1_expandedMinor 103 = .ok (.lneg, 1) := by decide +kernel
set_option maxRecDepth 20000 in
theorem dX1_expandedMinor_104 : decode cX1_expandedMinor 104 = .ok (.lstore 7, 2) := by decide +kernel
set_option maxRecDepth 20000 in
theorem dX1_expandedMinor_106 : decode cX1_expandedMinor 106 = .ok (.iinc 9 1, 3) := by decide +kernel
set_option maxRecDepth 20000 in
theorem dX1_expandedMinor_109 : decode cX1_expandedMinor 109 = .ok (.goto (-75), 3) := by decide +kernel
set_option maxRecDepth 20000 in
theorem dX1_expandedMinor_112 : decode cX1_expandedMinor 112 = .ok (.lload 5, 2) := by decide +kernel
set_option maxRecDepth 20000 in
theorem dX1_expandedMinor_114 : decode cX1_expandedMinor 114 = .ok (.lreturn, 1) := by decide +kernel
set_option maxRecDepth 20000 in
theorem dX1_rankBy_0 : decode cX1_rankBy 0 = .ok (.iconst 0, 1) := by decide +kernel
set_option maxRecDepth 20000 in
theorem dX1_rankBy_1 : decode cX1_rankBy 1 = .ok (.istore_n 3, 1) := by decide +kernel
set_option maxRecDepth 20000 in
theorem dX1_rankBy_2 : decode cX1_rankBy 2 = .ok (.iconst 1, 1) := by decide +kernel
set_option maxRecDepth 20000 in
theorem dX1_rankBy_3 : decode cX1_rankBy 3 = .ok (.istore 4, 2) := by decide +kernel
set_option maxRecDepth 20000 in
theorem dX1_rankBy_5 : decode cX1_rankBy 5 = .ok (.iload 4, 2) := by decide +kernel
set_option maxRecDepth 20000 in
theorem dX1_rankBy_7 : decode cX1_rankBy 7 = .ok (.iconst 1, 1) := by decide +kernel
set_option maxRecDepth 20000 in
theorem dX1_rankBy_8 : decode cX1_rankBy 8 = .ok (.aload_n 0, 1) := by decide +kernel
set_option maxRecDepth 20000 in
theorem dX1_rankBy_9 : decode cX1_rankBy 9 = .ok (.getfield 18, 3) := by decide +kernel
set_option maxRecDepth 20000 in
theorem dX1_rankBy_12 : decode cX1_rankBy 12 = .ok (.ishl, 1) := by decide +kernel
set_option maxRecDepth 20000 in
theorem dX1_rankBy_13 : decode cX1_rankBy 13 = .ok (.if_icmp .ge 74, 3) := by decide +kernel
set_option maxRecDepth 20000 in
theorem dX1_rankBy_16 : decode cX1_rankBy 16 = .ok (.iload 4, 2) := by decide +kernel
set_option maxRecDepth 20000 in
theorem dX1_rankBy_18 : decode cX1_rankBy 18 = .ok (.invokestatic 53, 3) := by decide +kernel
set_option maxRecDepth 20000 in
theorem dX1_rankBy_21 : decode cX1_rankBy 21 = .ok (.istore 5, 2) := by decide +kernel
set_option maxRecDepth 20000 in
theorem dX1_rankBy_23 : decode cX1_rankBy 23 = .ok (.iconst 1, 1) := by decide +kernel
set_option maxRecDepth 20000 in
theorem dX1_rankBy_24 : decode cX1_rankBy 24 = .ok (.istore 6, 2) := by decide +kernel
set_option maxRecDepth 20000 in
theorem dX1_rankBy_26 : decode cX1_rankBy 26 = .ok (.iload 5, 2) := by decide +kernel
set_option maxRecDepth 20000 in
theorem dX1_rankBy_28 : decode cX1_rankBy 28 = .ok (.iload_n 3, 1) := by decide +kernel
set_option maxRecDepth 20000 in
theorem dX1_rankBy_29 : decode cX1_rankBy 29 = .ok (.if_icmp .le 52, 3) := by decide +kernel
set_option maxRecDepth 20000 in
theorem dX1_rankBy_32 : decode cX1_rankBy 32 = .ok (.iload 6, 2) := by decide +kernel
set_option maxRecDepth 20000 in
theorem dX1_rankBy_34 : decode cX1_rankBy 34 = .ok (.iload_n 2, 1) := by decide +kernel
set_option maxRecDepth 20000 in
theorem dX1_rankBy_35 : decode cX1_rankBy 35 = .ok (.if_icmp .gt 46, 3) := by decide +kernel
set_option maxRecDepth 20000 in
theorem dX1_rankBy_38 : decode cX1_rankBy 38 = .ok (.iload 6, 2) := by decide +kernel
set_option maxRecDepth 20000 in
theorem dX1_rankBy_40 : decode cX1_rankBy 40 = .ok (.iload_n 2, 1) := by decide +kernel
set_option maxRecDepth 20000 in
theorem dX1_rankBy_41 : decode cX1_rankBy 41 = .ok (.iconst (-1), 1) := by decide +kernel
set_option maxRecDepth 20000 in
theorem dX1_rankBy_42 : decode cX1_rankBy 42 = .ok (.ixor, 1) := by decide +kernel
set_option maxRecDepth 20000 in
theorem dX1_rankBy_43 : decode cX1_rankBy 43 = .ok (.iand, 1) := by decide +kernel
set_option maxRecDepth 20000 in
theorem dX1_rankBy_44 : decode cX1_rankBy 44 = .ok (.ifCond .ne 31, 3) := by decide +kernel
set_option maxRecDepth 20000 in
theorem dX1_rankBy_47 : decode cX1_rankBy 47 = .ok (.iload 6, 2) := by decide +kernel
set_option maxRecDepth 20000 in
theorem dX1_rankBy_49 : decode cX1_rankBy 49 = .ok (.invokestatic 53, 3) := by decide +kernel
set_option maxRecDepth 20000 in
theorem dX1_rankBy_52 : decode cX1_rankBy 52 = .ok (.iload 5, 2) := by decide +kernel
set_option maxRecDepth 20000 in
theorem dX1_rankBy_54 : decode cX1_rankBy 54 = .ok (.if_icmp .ne 21, 3) := by decide +kernel
set_option maxRecDepth 20000 in
theorem dX1_rankBy_57 : decode cX1_rankBy 57 = .ok (.aload_n 0, 1) := by decide +kernel
set_option maxRecDepth 20000 in
theorem dX1_rankBy_58 : decode cX1_rankBy 58 = .ok (.iload 4, 2) := by decide +kernel
set_option maxRecDepth 20000 in
theorem dX1_rankBy_60 : decode cX1_rankBy 60 = .ok (.iload 6, 2) := by decide +kernel
set_option maxRecDepth 20000 in
theorem dX1_rankBy_62 : decode cX1_rankBy 62 = .ok (.invokevirtual 62, 3) := by decide +kernel
set_option maxRecDepth 20000 in
theorem dX1_rankBy_65 : decode cX1_rankBy 65 = .ok (.iload_n 1, 1) := by decide +kernel
set_option maxRecDepth 20000 in
theorem dX1_rankBy_66 : decode cX1_rankBy 66 = .ok (.invokestatic 65, 3) := by decide +kernel
set_option maxRecDepth 20000 in
theorem dX1_rankBy_69 : decode cX1_rankBy 69 = .ok (.ifCond .ne 6, 3) := by decide +kernel
set_option maxRecDepth 20000 in
theorem dX1_rankBy_72 : decode cX1_rankBy 72 = .ok (.iload 5, 2) := by decide +kernel
set_option maxRecDepth 20000 in
theorem dX1_rankBy_74 : decode cX1_rankBy 74 = .ok (.istore_n 3, 1) := by decide +kernel
set_option maxRecDepth 20000 in
theorem dX1_rankBy_75 : decode cX1_rankBy 75 = .ok (.iinc 6 1, 3) := by decide +kernel
set_option maxRecDepth 20000 in
theorem dX1_rankBy_78 : decode cX1_rankBy 78 = .ok (.goto (-52), 3) := by decide +kernel
set_option maxRecDepth 20000 in
theorem dX1_rankBy_81 : decode cX1_rankBy 81 = .ok (.iinc 4 1, 3) := by decide +kernel
set_option maxRecDepth 20000 in
theorem dX1_rankBy_84 : decode cX1_rankBy 84 = .ok (.goto (-79), 3) := by decide +kernel
set_option maxRecDepth 20000 in
theorem dX1_rankBy_87 : decode cX1_rankBy 87 = .ok (.iload_n 3, 1) := by decide +kernel
set_option maxRecDepth 20000 in
theorem dX1_rankBy_88 : decode cX1_rankBy 88 = .ok (.ireturn, 1) := by decide +kernel
set_option maxRecDepth 20000 in
theorem dX1_isZero_0 : decode cX1_isZero 0 = .ok (.iload_n 2, 1) := by decide +kernel
set_option maxRecDepth 20000 in
theorem dX1_isZero_1 : decode cX1_isZero 1 = .ok (.ifCond .ne 17, 3) := by decide +kernel
set_option maxRecDepth 20000 in
theorem dX1_isZero_4 : decode cX1_isZero 4 = .ok (.lload_n 0, 1) := by decide +kernel
set_option maxRecDepth 20000 in
theorem dX1_isZero_5 : decode cX1_isZero 5 = .ok (.lconst 0, 1) := by decide +kernel
set_option maxRecDepth 20000 in
theorem dX1_isZero_6 : decode cX1_isZero 6 = .ok (.lcmp, 1) := by decide +kernel
set_option maxRecDepth 20000 in
theorem dX1_isZero_7 : decode cX1_isZero 7 = .ok (.ifCond .ne 7, 3) := by decide +kernel
set_option maxRecDepth 20000 in
theorem dX1_isZero_10 : decode cX1_isZero 10 = .ok (.iconst 1, 1) := by decide +kernel
set_option maxRecDepth 20000 in
theorem dX1_isZero_11 : decode cX1_isZero 11 = .ok (.goto 21, 3) := by decide +kernel
set_option maxRecDepth 20000 in
theorem dX1_isZero_14 : decode cX1_isZero 14 = .ok (.iconst 0, 1) := by decide +kernel
set_option maxRecDepth 20000 in
theorem dX1_isZero_15 : decode cX1_isZero 15 = .ok (.goto 17, 3) := by decide +kernel
set_option maxRecDepth 20000 in
theorem dX1_isZero_18 : decode cX1_isZero 18 = .ok (.lload_n 0, 1) := by decide +kernel
set_option maxRecDepth 20000 in
theorem dX1_isZero_19 : decode cX1_isZero 19 = .ok (.iload_n 2, 1) := by decide +kernel
set_option maxRecDepth 20000 in
theorem dX1_isZero_20 : decode cX1_isZero 20 = .ok (.i2l, 1) := by decide +kernel
set_option maxRecDepth 20000 in
theorem dX1_isZero_21 : decode cX1_isZero 21 = .ok (.lrem, 1) := by decide +kernel
set_option maxRecDepth 20000 in
theorem dX1_isZero_22 : decode cX1_isZero 22 = .ok (.lconst 0, 1) := by decide +kernel
set_option maxRecDepth 20000 in
theorem dX1_isZero_23 : decode cX1_isZero 23 = .ok (.lcmp, 1) := by decide +kernel
set_option maxRecDepth 20000 in
theorem dX1_isZero_24 : decode cX1_isZero 24 = .ok (.ifCond .ne 7, 3) := by decide +kernel
set_option maxRecDepth 20000 in
theorem dX1_isZero_27 : decode cX1_isZero 27 = .ok (.iconst 1, 1) := by decide +kernel
set_option maxRecDepth 20000 in
theorem dX1_isZero_28 : decode cX1_isZero 28 = .ok (.goto 4, 3) := by decide +kernel
set_option maxRecDepth 20000 in
theorem dX1_isZero_31 : decode cX1_isZero 31 = .ok (.iconst 0, 1) := by decide +kernel
set_option maxRecDepth 20000 in
theorem dX1_isZero_32 : decode cX1_isZero 32 = .ok (.ireturn, 1) := by decide +kernel
set_option maxRecDepth 20000 in
theorem dX1_divisorOfMinors_0 : decode cX1_divisorOfMinors 0 = .ok (.lconst 0, 1) := by decide +kernel
set_option maxRecDepth 20000 in
theorem dX1_divisorOfMinors_1 : decode cX1_divisorOfMinors 1 = .ok (.lstore_n 3, 1) := by decide +kernel
set_option maxRecDepth 20000 in
theorem dX1_divisorOfMinors_2 : decode cX1_divisorOfMinors 2 = .ok (.iconst 0, 1) := by decide +kernel
set_option maxRecDepth 20000 in
theorem dX1_divisorOfMinors_3 : decode cX1_divisorOfMinors 3 = .ok (.istore 5, 2) := by decide +kernel
set_option maxRecDepth 20000 in
theorem dX1_divisorOfMinors_5 : decode cX1_divisorOfMinors 5 = .ok (.iload 5, 2) := by decide +kernel
set_option maxRecDepth 20000 in
theorem dX1_divisorOfMinors_7 : decode cX1_divisorOfMinors 7 = .ok (.iconst 1, 1) := by decide +kernel
set_option maxRecDepth 20000 in
theorem dX1_divisorOfMinors_8 : decode cX1_divisorOfMinors 8 = .ok (.aload_n 0, 1) := by decide +kernel
set_option maxRecDepth 20000 in
theorem dX1_divisorOfMinors_9 : decode cX1_divisorOfMinors 9 = .ok (.getfield 18, 3) := by decide +kernel
set_option maxRecDepth 20000 in
theorem dX1_divisorOfMinors_12 : decode cX1_divisorOfMinors 12 = .ok (.ishl, 1) := by decide +kernel
set_option maxRecDepth 20000 in
theorem dX1_divisorOfMinors_13 : decode cX1_divisorOfMinors 13 = .ok (.if_icmp .ge 73, 3) := by decide +kernel
set_option maxRecDepth 20000 in
theorem dX1_divisorOfMinors_16 : decode cX1_divisorOfMinors 16 = .ok (.iload 5, 2) := by decide +kernel
set_option maxRecDepth 20000 in
theorem dX1_divisorOfMinors_18 : decode cX1_divisorOfMinors 18 = .ok (.invokestatic 53, 3) := by decide +kernel
set_option maxRecDepth 20000 in
theorem dX1_divisorOfMinors_21 : decode cX1_divisorOfMinors 21 = .ok (.iload_n 1, 1) := by decide +kernel
set_option maxRecDepth 20000 in
theorem dX1_divisorOfMinors_22 : decode cX1_divisorOfMinors 22 = .ok (.if_icmp .eq 6, 3) := by decide +kernel
set_option maxRecDepth 20000 in
theorem dX1_divisorOfMinors_25 : decode cX1_divisorOfMinors 25 = .ok (.goto 55, 3) := by decide +kernel
set_option maxRecDepth 20000 in
theorem dX1_divisorOfMinors_28 : decode cX1_divisorOfMinors 28 = .ok (.iconst 0, 1) := by decide +kernel
set_option maxRecDepth 20000 in
theorem dX1_divisorOfMinors_29 : decode cX1_divisorOfMinors 29 = .ok (.istore 6, 2) := by decide +kernel
set_option maxRecDepth 20000 in
theorem dX1_divisorOfMinors_31 : decode cX1_divisorOfMinors 31 = .ok (.lload_n 3, 1) := by decide +kernel
set_option maxRecDepth 20000 in
theorem dX1_divisorOfMinors_32 : decode cX1_divisorOfMinors 32 = .ok (.lconst 1, 1) := by decide +kernel
set_option maxRecDepth 20000 in
theorem dX1_divisorOfMinors_33 : decode cX1_divisorOfMinors 33 = .ok (.lcmp, 1) := by decide +kernel
set_option maxRecDepth 20000 in
theorem dX1_divisorOfMinors_34 : decode cX1_divisorOfMinors 34 = .ok (.ifCond .eq 46, 3) := by decide +kernel
set_option maxRecDepth 20000 in
theorem dX1_divisorOfMinors_37 : decode cX1_divisorOfMinors 37 = .ok (.iload 6, 2) := by decide +kernel
set_option maxRecDepth 20000 in
theorem dX1_divisorOfMinors_39 : decode cX1_divisorOfMinors 39 = .ok (.iload_n 2, 1) := by decide +kernel
set_option maxRecDepth 20000 in
theorem dX1_divisorOfMinors_40 : decode cX1_divisorOfMinors 40 = .ok (.if_icmp .gt 40, 3) := by decide +kernel
set_option maxRecDepth 20000 in
theorem dX1_divisorOfMinors_43 : decode cX1_divisorOfMinors 43 = .ok (.iload 6, 2) := by decide +kernel
set_option maxRecDepth 20000 in
theorem dX1_divisorOfMinors_45 : decode cX1_divisorOfMinors 45 = .ok (.iload_n 2, 1) := by decide +kernel
set_option maxRecDepth 20000 in
theorem dX1_divisorOfMinors_46 : decode cX1_divisorOfMinors 46 = .ok (.iconst (-1), 1) := by decide +kernel
set_option maxRecDepth 20000 in
theorem dX1_divisorOfMinors_47 : decode cX1_divisorOfMinors 47 = .ok (.ixor, 1) := by decide +kernel
set_option maxRecDepth 20000 in
theorem dX1_divisorOfMinors_48 : decode cX1_divisorOfMinors 48 = .ok (.iand, 1) := by decide +kernel
set_option maxRecDepth 20000 in
theorem dX1_divisorOfMinors_49 : decode cX1_divisorOfMinors 49 = .ok (.ifCond .ne 25, 3) := by decide +kernel
set_option maxRecDepth 20000 in
theorem dX1_divisorOfMinors_52 : decode cX1_divisorOfMinors 52 = .ok (.iload 6, 2) := by decide +kernel
set_option maxRecDepth 20000 in
theorem dX1_divisorOfMinors_54 : decode cX1_divisorOfMinors 54 = .ok (.invokestatic 53, 3) := by decide +kernel
set_option maxRecDepth 20000 in
theorem dX1_divisorOfMinors_57 : decode cX1_divisorOfMinors 57 = .ok (.iload_n 1, 1) := by decide +kernel
set_option maxRecDepth 20000 in
theorem dX1_divisorOfMinors_58 : decode cX1_divisorOfMinors 58 = .ok (.if_icmp .ne 16, 3) := by decide +kernel
set_option maxRecDepth 20000 in
theorem dX1_divisorOfMinors_61 : decode cX1_divisorOfMinors 61 = .ok (.lload_n 3, 1) := by decide +kernel
set_option maxRecDepth 20000 in
theorem dX1_divisorOfMinors_62 : decode cX1_divisorOfMinors 62 = .ok (.aload_n 0, 1) := by decide +kernel
set_option maxRecDepth 20000 in
theorem dX1_divisorOfMinors_63 : decode cX1_divisorOfMinors 63 = .ok (.iload 5, 2) := by decide +kernel
set_option maxRecDepth 20000 in
theorem dX1_divisorOfMinors_65 : decode cX1_divisorOfMinors 65 = .ok (.iload 6, 2) := by decide +kernel
set_option maxRecDepth 20000 in
theorem dX1_divisorOfMinors_67 : decode cX1_divisorOfMinors 67 = .ok (.invokevirtual 62, 3) := by decide +kernel
set_option maxRecDepth 20000 in
theorem dX1_divisorOfMinors_70 : decode cX1_divisorOfMinors 70 = .ok (.invokestatic 69, 3) := by decide +kernel
set_option maxRecDepth 20000 in
theorem dX1_divisorOfMinors_73 : decode cX1_divisorOfMinors 73 = .ok (.lstore_n 3, 1) := by decide +kernel
set_option maxRecDepth 20000 in
theorem dX1_divisorOfMinors_74 : decode cX1_divisorOfMinors 74 = .ok (.iinc 6 1, 3) := by decide +kernel
set_option maxRecDepth 20000 in
theorem dX1_divisorOfMinors_77 : decode cX1_divisorOfMinors 77 = .ok (.goto (-46), 3) := by decide +kernel
set_option maxRecDepth 20000 in
theorem dX1_divisorOfMinors_80 : decode cX1_divisorOfMinors 80 = .ok (.iinc 5 1, 3) := by decide +kernel
set_option maxRecDepth 20000 in
theorem dX1_divisorOfMinors_83 : decode cX1_divisorOfMinors 83 = .ok (.goto (-78), 3) := by decide +kernel
set_option maxRecDepth 20000 in
theorem dX1_divisorOfMinors_86 : decode cX1_divisorOfMinors 86 = .ok (.lload_n 3, 1) := by decide +kernel
set_option maxRecDepth 20000 in
theorem dX1_divisorOfMinors_87 : decode cX1_divisorOfMinors 87 = .ok (.lreturn, 1) := by decide +kernel
set_option maxRecDepth 20000 in
theorem dX2_init_0 : decode cX2_init 0 = .ok (.aload_n 0, 1) := by decide +kernel
set_option maxRecDepth 20000 in
theorem dX2_init_1 : decode cX2_init 1 = .ok (.invokespecial 3, 3) := by decide +kernel
set_option maxRecDepth 20000 in
theorem dX2_init_4 : decode cX2_init 4 = .ok (.aload_n 0, 1) := by decide +kernel
set_option maxRecDepth 20000 in
theorem dX2_init_5 : decode cX2_init 5 = .ok (.bipush 6, 2) := by decide +kernel
set_option maxRecDepth 20000 in
theorem dX2_init_7 : decode cX2_init 7 = .ok (.newarray .long, 2) := by decide +kernel
set_option maxRecDepth 20000 in
theorem dX2_init_9 : decode cX2_init 9 = .ok (.putfield 9, 3) := by decide +kernel
set_option maxRecDepth 20000 in
theorem dX2_init_12 : decode cX2_init 12 = .ok (.aload_n 0, 1) := by decide +kernel
set_option maxRecDepth 20000 in
theorem dX2_init_13 : decode cX2_init 13 = .ok (.lconst 1, 1) := by decide +kernel
set_option maxRecDepth 20000 in
theorem dX2_init_14 : decode cX2_init 14 = .ok (.putfield 15, 3) := by decide +kernel
set_option maxRecDepth 20000 in
theorem dX2_init_17 : decode cX2_init 17 = .ok (.aload_n 0, 1) := by decide +kernel
set_option maxRecDepth 20000 in
theorem dX2_init_18 : decode cX2_init 18 = .ok (.iconst 0, 1) := by decide +kernel
set_option maxRecDepth 20000 in
theorem dX2_init_19 : decode cX2_init 19 = .ok (.putfield 19, 3) := by decide +kernel
set_option maxRecDepth 20000 in
theorem dX2_init_22 : decode cX2_init 22 = .ok (.aload_n 0, 1) := by decide +kernel
set_option maxRecDepth 20000 in
theorem dX2_init_23 : decode cX2_init 23 = .ok (.bipush 6, 2) := by decide +kernel
set_option maxRecDepth 20000 in
theorem dX2_init_25 : decode cX2_init 25 = .ok (.newarray .long, 2) := by decide +kernel
set_option maxRecDepth 20000 in
theorem dX2_init_27 : decode cX2_init 27 = .ok (.putfield 23, 3) := by decide +kernel
set_option maxRecDepth 20000 in
theorem dX2_init_30 : decode cX2_init 30 = .ok (.aload_n 0, 1) := by decide +kernel
set_option maxRecDepth 20000 in
theorem dX2_init_31 : decode cX2_init 31 = .ok (.bipush 6, 2) := by decide +kernel
set_option maxRecDepth 20000 in
theorem dX2_init_33 : decode cX2_init 33 = .ok (.newarray .long, 2) := by decide +kernel
set_option maxRecDepth 20000 in
theorem dX2_init_35 : decode cX2_init 35 = .ok (.putfield 26, 3) := by decide +kernel
set_option maxRecDepth 20000 in
theorem dX2_init_38 : decode cX2_init 38 = .ok (.aload_n 0, 1) := by decide +kernel
set_option maxRecDepth 20000 in
theorem dX2_init_39 : decode cX2_init 39 = .ok (.iconst 5, 1) := by decide +kernel
set_option maxRecDepth 20000 in
theorem dX2_init_40 : decode cX2_init 40 = .ok (.bipush 6, 2) := by decide +kernel
set_option maxRecDepth 20000 in
theorem dX2_init_42 : decode cX2_init 42 = .ok (.multianewarray 29 2, 4) := by decide +kernel
set_option maxRecDepth 20000 in
theorem dX2_init_46 : decode cX2_init 46 = .ok (.putfield 31, 3) := by decide +kernel
set_option maxRecDepth 20000 in
theorem dX2_init_49 : decode cX2_init 49 = .ok (.aload_n 0, 1) := by decide +kernel
set_option maxRecDepth 20000 in
theorem dX2_init_50 : decode cX2_init 50 = .ok (.iconst 0, 1) := by decide +kernel
set_option maxRecDepth 20000 in
theorem dX2_init_51 : decode cX2_init 51 = .ok (.putfield 34, 3) := by decide +kernel
set_option maxRecDepth 20000 in
theorem dX2_init_54 : decode cX2_init 54 = .ok (.aload_n 0, 1) := by decide +kernel
set_option maxRecDepth 20000 in
theorem dX2_init_55 : decode cX2_init 55 = .ok (.iconst 5, 1) := by decide +kernel
set_option maxRecDepth 20000 in
theorem dX2_init_56 : decode cX2_init 56 = .ok (.bipush 6, 2) := by decide +kernel
set_option maxRecDepth 20000 in
theorem dX2_init_58 : decode cX2_init 58 = .ok (.multianewarray 29 2, 4) := by decide +kernel
set_option maxRecDepth 20000 in
theorem dX2_init_62 : decode cX2_init 62 = .ok (.putfield 37, 3) := by decide +kernel
set_option maxRecDepth 20000 in
theorem dX2_init_65 : decode cX2_init 65 = .ok (.aload_n 0, 1) := by decide +kernel
set_option maxRecDepth 20000 in
theorem dX2_init_66 : decode cX2_init 66 = .ok (.bipush 6, 2) := by decide +kernel
set_option maxRecDepth 20000 in
theorem dX2_init_68 : decode cX2_init 68 = .ok (.newarray .long, 2) := by decide +kernel
set_option maxRecDepth 20000 in
theorem dX2_init_70 : decode cX2_init 70 = .ok (.putfield 40, 3) := by decide +kernel
set_option maxRecDepth 20000 in
theorem dX2_init_73 : decode cX2_init 73 = .ok (.aload_n 0, 1) := by decide +kernel
set_option maxRecDepth 20000 in
theorem dX2_init_74 : decode cX2_init 74 = .ok (.lconst 1, 1) := by decide +kernel
set_option maxRecDepth 20000 in
theorem dX2_init_75 : decode cX2_init 75 = .ok (.putfield 43, 3) := by decide +kernel
set_option maxRecDepth 20000 in
theorem dX2_init_78 : decode cX2_init 78 = .ok (.return_, 1) := by decide +kernel
set_option maxRecDepth 20000 in
theorem dX2_aboveAt_0 : decode cX2_aboveAt 0 = .ok (.iload_n 1, 1) := by decide +kernel
set_option maxRecDepth 20000 in
theorem dX2_aboveAt_1 : decode cX2_aboveAt 1 = .ok (.aload_n 0, 1) := by decide +kernel
set_option maxRecDepth 20000 in
theorem dX2_aboveAt_2 : decode cX2_aboveAt 2 = .ok (.getfield 9, 3) := by decide +kernel
set_option maxRecDepth 20000 in
theorem dX2_aboveAt_5 : decode cX2_aboveAt 5 = .ok (.arraylength, 1) := by decide +kernel
set_option maxRecDepth 20000 in
theorem dX2_aboveAt_6 : decode cX2_aboveAt 6 = .ok (.invokestatic 46, 3) := by decide +kernel
set_option maxRecDepth 20000 in
theorem dX2_aboveAt_9 : decode cX2_aboveAt 9 = .ok (.ifCond .eq 12, 3) := by decide +kernel
set_option maxRecDepth 20000 in
theorem dX2_aboveAt_12 : decode cX2_aboveAt 12 = .ok (.aload_n 0, 1) := by decide +kernel
set_option maxRecDepth 20000 in
theorem dX2_aboveAt_13 : decode cX2_aboveAt 13 = .ok (.getfield 9, 3) := by decide +kernel
set_option maxRecDepth 20000 in
theorem dX2_aboveAt_16 : decode cX2_aboveAt 16 = .ok (.iload_n 1, 1) := by decide +kernel
set_option maxRecDepth 20000 in
theorem dX2_aboveAt_17 : decode cX2_aboveAt 17 = .ok (.laload, 1) := by decide +kernel
set_option maxRecDepth 20000 in
theorem dX2_aboveAt_18 : decode cX2_aboveAt 18 = .ok (.goto 4, 3) := by decide +kernel
set_option maxRecDepth 20000 in
theorem dX2_aboveAt_21 : decode cX2_aboveAt 21 = .ok (.lconst 0, 1) := by decide +kernel
set_option maxRecDepth 20000 in
theorem dX2_aboveAt_22 : decode cX2_aboveAt 22 = .ok (.lreturn, 1) := by decide +kernel
set_option maxRecDepth 20000 in
theorem dX2_below_0 : decode cX2_below 0 = .ok (.aload_n 0, 1) := by decide +kernel
set_option maxRecDepth 20000 in
theorem dX2_below_1 : decode cX2_below 1 = .ok (.getfield 15, 3) := by decide +kernel
set_option maxRecDepth 20000 in
theorem dX2_below_4 : decode cX2_below 4 = .ok (.lreturn, 1) := by decide +kernel
set_option maxRecDepth 20000 in
theorem dX2_lengthAbove_0 : decode cX2_lengthAbove 0 = .ok (.lconst 0, 1) := by decide +kernel
set_option maxRecDepth 20000 in
theorem dX2_lengthAbove_1 : decode cX2_lengthAbove 1 = .ok (.lstore_n 1, 1) := by decide +kernel
set_option maxRecDepth 20000 in
theorem dX2_lengthAbove_2 : decode cX2_lengthAbove 2 = .ok (.iconst 0, 1) := by decide +kernel
set_option maxRecDepth 20000 in
theorem dX2_lengthAbove_3 : decode cX2_lengthAbove 3 = .ok (.istore_n 3, 1) := by decide +kernel
set_option maxRecDepth 20000 in
theorem dX2_lengthAbove_4 : decode cX2_lengthAbove 4 = .ok (.iload_n 3, 1) := by decide +kernel
set_option maxRecDepth 20000 in
theorem dX2_lengthAbove_5 : decode cX2_lengthAbove 5 = .ok (.aload_n 0, 1) := by decide +kernel
set_option maxRecDepth 20000 in
theorem dX2_lengthAbove_6 : decode cX2_lengthAbove 6 = .ok (.getfield 19, 3) := by decide +kernel
set_option maxRecDepth 20000 in
theorem dX2_lengthAbove_9 : decode cX2_lengthAbove 9 = .ok (.if_icmp .ge 32, 3) := by decide +kernel
set_option maxRecDepth 20000 in
theorem dX2_lengthAbove_12 : decode cX2_lengthAbove 12 = .ok (.lload_n 1, 1) := by decide +kernel
set_option maxRecDepth 20000 in
theorem dX2_lengthAbove_13 : decode cX2_lengthAbove 13 = .ok (.aload_n 0, 1) := by decide +kernel
set_option maxRecDepth 20000 in
theorem dX2_lengthAbove_14 : decode cX2_lengthAbove 14 = .ok (.getfield 9, 3) := by decide +kernel
set_option maxRecDepth 20000 in
theorem dX2_lengthAbove_17 : decode cX2_lengthAbove 17 = .ok (.iload_n 3, 1) := by decide +kernel
set_option maxRecDepth 20000 in
theorem dX2_lengthAbove_18 : decode cX2_lengthAbove 18 = .ok (.laload, 1) := by decide +kernel
set_option maxRecDepth 20000 in
theorem dX2_lengthAbove_19 : decode cX2_lengthAbove 19 = .ok (.aload_n 0, 1) := by decide +kernel
set_option maxRecDepth 20000 in
theorem dX2_lengthAbove_20 : decode cX2_lengthAbove 20 = .ok (.getfield 23, 3) := by decide +kernel
set_option maxRecDepth 20000 in
theorem dX2_lengthAbove_23 : decode cX2_lengthAbove 23 = .ok (.iload_n 3, 1) := by decide +kernel
set_option maxRecDepth 20000 in
theorem dX2_lengthAbove_24 : decode cX2_lengthAbove 24 = .ok (.laload, 1) := by decide +kernel
set_option maxRecDepth 20000 in
theorem dX2_lengthAbove_25 : decode cX2_lengthAbove 25 = .ok (.lmul, 1) := by decide +kernel
set_option maxRecDepth 20000 in
theorem dX2_lengthAbove_26 : decode cX2_lengthAbove 26 = .ok (.aload_n 0, 1) := by decide +kernel
set_option maxRecDepth 20000 in
theorem dX2_lengthAbove_27 : decode cX2_lengthAbove 27 = .ok (.getfield 26, 3) := by decide +kernel
set_option maxRecDepth 20000 in
theorem dX2_lengthAbove_30 : decode cX2_lengthAbove 30 = .ok (.iload_n 3, 1) := by decide +kernel
set_option maxRecDepth 20000 in
theorem dX2_lengthAbove_31 : decode cX2_lengthAbove 31 = .ok (.laload, 1) := by decide +kernel
set_option maxRecDepth 20000 in
theorem dX2_lengthAbove_32 : decode cX2_lengthAbove 32 = .ok (.lmul, 1) := by decide +kernel
set_option maxRecDepth 20000 in
theorem dX2_lengthAbove_33 : decode cX2_lengthAbove 33 = .ok (.ladd, 1) := by decide +kernel
set_option maxRecDepth 20000 in
theorem dX2_lengthAbove_34 : decode cX2_lengthAbove 34 = .ok (.lstore_n 1, 1) := by decide +kernel
set_option maxRecDepth 20000 in
theorem dX2_lengthAbove_35 : decode cX2_lengthAbove 35 = .ok (.iinc 3 1, 3) := by decide +kernel
set_option maxRecDepth 20000 in
theorem dX2_lengthAbove_38 : decode cX2_lengthAbove 38 = .ok (.goto (-34), 3) := by decide +kernel
set_option maxRecDepth 20000 in
theorem dX2_lengthAbove_41 : decode cX2_lengthAbove 41 = .ok (.lload_n 1, 1) := by decide +kernel
set_option maxRecDepth 20000 in
theorem dX2_lengthAbove_42 : decode cX2_lengthAbove 42 = .ok (.lreturn, 1) := by decide +kernel
set_option maxRecDepth 20000 in
theorem dX2_take_0 : decode cX2_take 0 = .ok (.aload_n 0, 1) := by decide +kernel
set_option maxRecDepth 20000 in
theorem dX2_take_1 : decode cX2_take 1 = .ok (.aload_n 1, 1) := by decide +kernel
set_option maxRecDepth 20000 in
theorem dX2_take_2 : decode cX2_take 2 = .ok (.iload_n 2, 1) := by decide +kernel
set_option maxRecDepth 20000 in
theorem dX2_take_3 : decode cX2_take 3 = .ok (.invokevirtual 50, 3) := by decide +kernel
set_option maxRecDepth 20000 in
theorem dX2_take_6 : decode cX2_take 6 = .ok (.iload_n 3, 1) := by decide +kernel
set_option maxRecDepth 20000 in
theorem dX2_take_7 : decode cX2_take 7 = .ok (.ifCond .eq 8, 3) := by decide +kernel
set_option maxRecDepth 20000 in
theorem dX2_take_10 : decode cX2_take 10 = .ok (.iload_n 3, 1) := by decide +kernel
set_option maxRecDepth 20000 in
theorem dX2_take_11 : decode cX2_take 11 = .ok (.iconst 1, 1) := by decide +kernel
set_option maxRecDepth 20000 in
theorem dX2_take_12 : decode cX2_take 12 = .ok (.if_icmp .ne 53, 3) := by decide +kernel
set_option maxRecDepth 20000 in
theorem dX2_take_15 : decode cX2_take 15 = .ok (.aload_n 0, 1) := by decide +kernel
set_option maxRecDepth 20000 in
theorem dX2_take_16 : decode cX2_take 16 = .ok (.aload_n 1, 1) := by decide +kernel
set_option maxRecDepth 20000 in
theorem dX2_take_17 : decode cX2_take 17 = .ok (.iload_n 3, 1) := by decide +kernel
set_option maxRecDepth 20000 in
theorem dX2_take_18 : decode cX2_take 18 = .ok (.invokevirtual 54, 3) := by decide +kernel
set_option maxRecDepth 20000 in
theorem dX2_take_21 : decode cX2_take 21 = .ok (.aload_n 0, 1) := by decide +kernel
set_option maxRecDepth 20000 in
theorem dX2_take_22 : decode cX2_take 22 = .ok (.invokevirtual 57, 3) := by decide +kernel
set_option maxRecDepth 20000 in
theorem dX2_take_25 : decode cX2_take 25 = .ok (.iconst 0, 1) := by decide +kernel
set_option maxRecDepth 20000 in
theorem dX2_take_26 : decode cX2_take 26 = .ok (.istore 4, 2) := by decide +kernel
set_option maxRecDepth 20000 in
theorem dX2_take_28 : decode cX2_take 28 = .ok (.iload 4, 2) := by decide +kernel
set_option maxRecDepth 20000 in
theorem dX2_take_30 : decode cX2_take 30 = .ok (.aload_n 0, 1) := by decide +kernel
set_option maxRecDepth 20000 in
theorem dX2_take_31 : decode cX2_take 31 = .ok (.getfield 19, 3) := by decide +kernel
set_option maxRecDepth 20000 in
theorem dX2_take_34 : decode cX2_take 34 = .ok (.if_icmp .ge 23, 3) := by decide +kernel
set_option maxRecDepth 20000 in
theorem dX2_take_37 : decode cX2_take 37 = .ok (.aload_n 0, 1) := by decide +kernel
set_option maxRecDepth 20000 in
theorem dX2_take_38 : decode cX2_take 38 = .ok (.getfield 9, 3) := by decide +kernel
set_option maxRecDepth 20000 in
theorem dX2_take_41 : decode cX2_take 41 = .ok (.iload 4, 2) := by decide +kernel
set_option maxRecDepth 20000 in
theorem dX2_take_43 : decode cX2_take 43 = .ok (.aload_n 0, 1) := by decide +kernel
set_option maxRecDepth 20000 in
theorem dX2_take_44 : decode cX2_take 44 = .ok (.getfield 40, 3) := by decide +kernel
set_option maxRecDepth 20000 in
theorem dX2_take_47 : decode cX2_take 47 = .ok (.iload 4, 2) := by decide +kernel
set_option maxRecDepth 20000 in
theorem dX2_take_49 : decode cX2_take 49 = .ok (.laload, 1) := by decide +kernel
set_option maxRecDepth 20000 in
theorem dX2_take_50 : decode cX2_take 50 = .ok (.lastore, 1) := by decide +kernel
set_option maxRecDepth 20000 in
theorem dX2_take_51 : decode cX2_take 51 = .ok (.iinc 4 1, 3) := by decide +kernel
set_option maxRecDepth 20000 in
theorem dX2_take_54 : decode cX2_take 54 = .ok (.goto (-26), 3) := by decide +kernel
set_option maxRecDepth 20000 in
theorem dX2_take_57 : decode cX2_take 57 = .ok (.aload_n 0, 1) := by decide +kernel
set_option maxRecDepth 20000 in
theorem dX2_take_58 : decode cX2_take 58 = .ok (.aload_n 0, 1) := by decide +kernel
set_option maxRecDepth 20000 in
theorem dX2_take_59 : decode cX2_take 59 = .ok (.getfield 43, 3) := by decide +kernel
set_option maxRecDepth 20000 in
theorem dX2_take_62 : decode cX2_take 62 = .ok (.putfield 15, 3) := by decide +kernel
set_option maxRecDepth 20000 in
theorem dX2_take_65 : decode cX2_take 65 = .ok (.iload_n 3, 1) := by decide +kernel
set_option maxRecDepth 20000 in
theorem dX2_take_66 : decode cX2_take 66 = .ok (.iconst 2, 1) := by decide +kernel
set_option maxRecDepth 20000 in
theorem dX2_take_67 : decode cX2_take 67 = .ok (.if_icmp .ne 31, 3) := by decide +kernel
set_option maxRecDepth 20000 in
theorem dX2_take_70 : decode cX2_take 70 = .ok (.aload_n 0, 1) := by decide +kernel
set_option maxRecDepth 20000 in
theorem dX2_take_71 : decode cX2_take 71 = .ok (.aload_n 1, 1) := by decide +kernel
set_option maxRecDepth 20000 in
theorem dX2_take_72 : decode cX2_take 72 = .ok (.iconst 0, 1) := by decide +kernel
set_option maxRecDepth 20000 in
theorem dX2_take_73 : decode cX2_take 73 = .ok (.invokevirtual 54, 3) := by decide +kernel
set_option maxRecDepth 20000 in
theorem dX2_take_76 : decode cX2_take 76 = .ok (.aload_n 0, 1) := by decide +kernel
set_option maxRecDepth 20000 in
theorem dX2_take_77 : decode cX2_take 77 = .ok (.invokevirtual 57, 3) := by decide +kernel
set_option maxRecDepth 20000 in
theorem dX2_take_80 : decode cX2_take 80 = .ok (.aload_n 0, 1) := by decide +kernel
set_option maxRecDepth 20000 in
theorem dX2_take_81 : decode cX2_take 81 = .ok (.invokevirtual 60, 3) := by decide +kernel
set_option maxRecDepth 20000 in
theorem dX2_take_84 : decode cX2_take 84 = .ok (.aload_n 0, 1) := by decide +kernel
set_option maxRecDepth 20000 in
theorem dX2_take_85 : decode cX2_take 85 = .ok (.aload_n 1, 1) := by decide +kernel
set_option maxRecDepth 20000 in
theorem dX2_take_86 : decode cX2_take 86 = .ok (.iconst 1, 1) := by decide +kernel
set_option maxRecDepth 20000 in
theorem dX2_take_87 : decode cX2_take 87 = .ok (.invokevirtual 54, 3) := by decide +kernel
set_option maxRecDepth 20000 in
theorem dX2_take_90 : decode cX2_take 90 = .ok (.aload_n 0, 1) := by decide +kernel
set_option maxRecDepth 20000 in
theorem dX2_take_91 : decode cX2_take 91 = .ok (.invokevirtual 57, 3) := by decide +kernel
set_option maxRecDepth 20000 in
theorem dX2_take_94 : decode cX2_take 94 = .ok (.aload_n 0, 1) := by decide +kernel
set_option maxRecDepth 20000 in
theorem dX2_take_95 : decode cX2_take 95 = .ok (.invokevirtual 60, 3) := by decide +kernel
set_option maxRecDepth 20000 in
theorem dX2_take_98 : decode cX2_take 98 = .ok (.return_, 1) := by decide +kernel
set_option maxRecDepth 20000 in
theorem dX2_loadChain_0 : decode cX2_loadChain 0 = .ok (.aload_n 0, 1) := by decide +kernel
set_option maxRecDepth 20000 in
theorem dX2_loadChain_1 : decode cX2_loadChain 1 = .ok (.aload_n 1, 1) := by decide +kernel
set_option maxRecDepth 20000 in
theorem dX2_loadChain_2 : decode cX2_loadChain 2 = .ok (.iconst 1, 1) := by decide +kernel
set_option maxRecDepth 20000 in
theorem dX2_loadChain_3 : decode cX2_loadChain 3 = .ok (.invokevirtual 63, 3) := by decide +kernel
set_option maxRecDepth 20000 in
theorem dX2_loadChain_6 : decode cX2_loadChain 6 = .ok (.bipush 6, 2) := by decide +kernel
set_option maxRecDepth 20000 in
theorem dX2_loadChain_8 : decode cX2_loadChain 8 = .ok (.invokestatic 69, 3) := by decide +kernel
set_option maxRecDepth 20000 in
theorem dX2_loadChain_11 : decode cX2_loadChain 11 = .ok (.putfield 19, 3) := by decide +kernel
set_option maxRecDepth 20000 in
theorem dX2_loadChain_14 : decode cX2_loadChain 14 = .ok (.aload_n 0, 1) := by decide +kernel
set_option maxRecDepth 20000 in
theorem dX2_loadChain_15 : decode cX2_loadChain 15 = .ok (.lconst 1, 1) := by decide +kernel
set_option maxRecDepth 20000 in
theorem dX2_loadChain_16 : decode cX2_loadChain 16 = .ok (.putfield 15, 3) := by decide +kernel
set_option maxRecDepth 20000 in
theorem dX2_loadChain_19 : decode cX2_loadChain 19 = .ok (.iconst 0, 1) := by decide +kernel
set_option maxRecDepth 20000 in
theorem dX2_loadChain_20 : decode cX2_loadChain 20 = .ok (.istore_n 3, 1) := by decide +kernel
set_option maxRecDepth 20000 in
theorem dX2_loadChain_21 : decode cX2_loadChain 21 = .ok (.iload_n 3, 1) := by decide +kernel
set_option maxRecDepth 20000 in
theorem dX2_loadChain_22 : decode cX2_loadChain 22 = .ok (.aload_n 0, 1) := by decide +kernel
set_option maxRecDepth 20000 in
theorem dX2_loadChain_23 : decode cX2_loadChain 23 = .ok (.getfield 19, 3) := by decide +kernel
set_option maxRecDepth 20000 in
theorem dX2_loadChain_26 : decode cX2_loadChain 26 = .ok (.if_icmp .ge 65, 3) := by decide +kernel
set_option maxRecDepth 20000 in
theorem dX2_loadChain_29 : decode cX2_loadChain 29 = .ok (.aload_n 1, 1) := by decide +kernel
set_option maxRecDepth 20000 in
theorem dX2_loadChain_30 : decode cX2_loadChain 30 = .ok (.iconst 1, 1) := by decide +kernel
set_option maxRecDepth 20000 in
theorem dX2_loadChain_31 : decode cX2_loadChain 31 = .ok (.iload_n 3, 1) := by decide +kernel
set_option maxRecDepth 20000 in
theorem dX2_loadChain_32 : decode cX2_loadChain 32 = .ok (.invokevirtual 75, 3) := by decide +kernel
set_option maxRecDepth 20000 in
theorem dX2_loadChain_35 : decode cX2_loadChain 35 = .ok (.istore 4, 2) := by decide +kernel
set_option maxRecDepth 20000 in
theorem dX2_loadChain_37 : decode cX2_loadChain 37 = .ok (.aload_n 0, 1) := by decide +kernel
set_option maxRecDepth 20000 in
theorem dX2_loadChain_38 : decode cX2_loadChain 38 = .ok (.getfield 23, 3) := by decide +kernel
set_option maxRecDepth 20000 in
theorem dX2_loadChain_41 : decode cX2_loadChain 41 = .ok (.iload_n 3, 1) := by decide +kernel
set_option maxRecDepth 20000 in
theorem dX2_loadChain_42 : decode cX2_loadChain 42 = .ok (.aload_n 1, 1) := by decide +kernel
set_option maxRecDepth 20000 in
theorem dX2_loadChain_43 : decode cX2_loadChain 43 = .ok (.iload_n 2, 1) := by decide +kernel
set_option maxRecDepth 20000 in
theorem dX2_loadChain_44 : decode cX2_loadChain 44 = .ok (.iload_n 3, 1) := by decide +kernel
set_option maxRecDepth 20000 in
theorem dX2_loadChain_45 : decode cX2_loadChain 45 = .ok (.invokevirtual 78, 3) := by decide +kernel
set_option maxRecDepth 20000 in
theorem dX2_loadChain_48 : decode cX2_loadChain 48 = .ok (.i2l, 1) := by decide +kernel
set_option maxRecDepth 20000 in
theorem dX2_loadChain_49 : decode cX2_loadChain 49 = .ok (.lastore, 1) := by decide +kernel
set_option maxRecDepth 20000 in
theorem dX2_loadChain_50 : decode cX2_loadChain 50 = .ok (.aload_n 0, 1) := by decide +kernel
set_option maxRecDepth 20000 in
theorem dX2_loadChain_51 : decode cX2_loadChain 51 = .ok (.getfield 26, 3) := by decide +kernel
set_option maxRecDepth 20000 in
theorem dX2_loadChain_54 : decode cX2_loadChain 54 = .ok (.iload_n 3, 1) := by decide +kernel
set_option maxRecDepth 20000 in
theorem dX2_loadChain_55 : decode cX2_loadChain 55 = .ok (.iload 4, 2) := by decide +kernel
set_option maxRecDepth 20000 in
theorem dX2_loadChain_57 : decode cX2_loadChain 57 = .ok (.ifCond .le 12, 3) := by decide +kernel
set_option maxRecDepth 20000 in
theorem dX2_loadChain_60 : decode cX2_loadChain 60 = .ok (.bipush 6, 2) := by decide +kernel
set_option maxRecDepth 20000 in
theorem dX2_loadChain_62 : decode cX2_loadChain 62 = .ok (.iload 4, 2) := by decide +kernel
set_option maxRecDepth 20000 in
theorem dX2_loadChain_64 : decode cX2_loadChain 64 = .ok (.idiv, 1) := by decide +kernel
set_option maxRecDepth 20000 in
theorem dX2_loadChain_65 : decode cX2_loadChain 65 = .ok (.i2l, 1) := by decide +kernel
set_option maxRecDepth 20000 in
theorem dX2_loadChain_66 : decode cX2_loadChain 66 = .ok (.goto 6, 3) := by decide +kernel
set_option maxRecDepth 20000 in
theorem dX2_loadChain_69 : decode cX2_loadChain 69 = .ok (.ldc2_w 81, 3) := by decide +kernel
set_option maxRecDepth 20000 in
theorem dX2_loadChain_72 : decode cX2_loadChain 72 = .ok (.lastore, 1) := by decide +kernel
set_option maxRecDepth 20000 in
theorem dX2_loadChain_73 : decode cX2_loadChain 73 = .ok (.aload_n 0, 1) := by decide +kernel
set_option maxRecDepth 20000 in
theorem dX2_loadChain_74 : decode cX2_loadChain 74 = .ok (.getfield 9, 3) := by decide +kernel
set_option maxRecDepth 20000 in
theorem dX2_loadChain_77 : decode cX2_loadChain 77 = .ok (.iload_n 3, 1) := by decide +kernel
set_option maxRecDepth 20000 in
theorem dX2_loadChain_78 : decode cX2_loadChain 78 = .ok (.aload_n 0, 1) := by decide +kernel
set_option maxRecDepth 20000 in
theorem dX2_loadChain_79 : decode cX2_loadChain 79 = .ok (.getfield 23, 3) := by decide +kernel
set_option maxRecDepth 20000 in
theorem dX2_loadChain_82 : decode cX2_loadChain 82 = .ok (.iload_n 3, 1) := by decide +kernel
set_option maxRecDepth 20000 in
theorem dX2_loadChain_83 : decode cX2_loadChain 83 = .ok (.laload, 1) := by decide +kernel
set_option maxRecDepth 20000 in
theorem dX2_loadChain_84 : decode cX2_loadChain 84 = .ok (.lastore, 1) := by decide +kernel
set_option maxRecDepth 20000 in
theorem dX2_loadChain_85 : decode cX2_loadChain 85 = .ok (.iinc 3 1, 3) := by decide +kernel
set_option maxRecDepth 20000 in
theorem dX2_loadChain_88 : decode cX2_loadChain 88 = .ok (.goto (-67), 3) := by decide +kernel
set_option maxRecDepth 20000 in
theorem dX2_loadChain_91 : decode cX2_loadChain 91 = .ok (.return_, 1) := by decide +kernel
set_option maxRecDepth 20000 in
theorem dX2_loadRays_0 : decode cX2_loadRays 0 = .ok (.aload_n 0, 1) := by decide +kernel
set_option maxRecDepth 20000 in
theorem dX2_loadRays_1 : decode cX2_loadRays 1 = .ok (.aload_n 1, 1) := by decide +kernel
set_option maxRecDepth 20000 in
theorem dX2_loadRays_2 : decode cX2_loadRays 2 = .ok (.iload_n 2, 1) := by decide +kernel
set_option maxRecDepth 20000 in
theorem dX2_loadRays_3 : decode cX2_loadRays 3 = .ok (.ifCond .ne 7, 3) := by decide +kernel
set_option maxRecDepth 20000 in
theorem dX2_loadRays_6 : decode cX2_loadRays 6 = .ok (.iconst 2, 1) := by decide +kernel
set_option maxRecDepth 20000 in
theorem dX2_loadRays_7 : decode cX2_loadRays 7 = .ok (.goto 4, 3) := by decide +kernel
set_option maxRecDepth 20000 in
theorem dX2_loadRays_10 : decode cX2_loadRays 10 = .ok (.iconst 0, 1) := by decide +kernel
set_option maxRecDepth 20000 in
theorem dX2_loadRays_11 : decode cX2_loadRays 11 = .ok (.invokevirtual 63, 3) := by decide +kernel
set_option maxRecDepth 20000 in
theorem dX2_loadRays_14 : decode cX2_loadRays 14 = .ok (.iconst 5, 1) := by decide +kernel
set_option maxRecDepth 20000 in
theorem dX2_loadRays_15 : decode cX2_loadRays 15 = .ok (.invokestatic 69, 3) := by decide +kernel
set_option maxRecDepth 20000 in
theorem dX2_loadRays_18 : decode cX2_loadRays 18 = .ok (.putfield 34, 3) := by decide +kernel
set_option maxRecDepth 20000 in
theorem dX2_loadRays_21 : decode cX2_loadRays 21 = .ok (.iconst 0, 1) := by decide +kernel
set_option maxRecDepth 20000 in
theorem dX2_loadRays_22 : decode cX2_loadRays 22 = .ok (.istore_n 3, 1) := by decide +kernel
set_option maxRecDepth 20000 in
theorem dX2_loadRays_23 : decode cX2_loadRays 23 = .ok (.iload_n 3, 1) := by decide +kernel
set_option maxRecDepth 20000 in
theorem dX2_loadRays_24 : decode cX2_loadRays 24 = .ok (.aload_n 0, 1) := by decide +kernel
set_option maxRecDepth 20000 in
theorem dX2_loadRays_25 : decode cX2_loadRays 25 = .ok (.getfield 34, 3) := by decide +kernel
set_option maxRecDepth 20000 in
theorem dX2_loadRays_28 : decode cX2_loadRays 28 = .ok (.if_icmp .ge 69, 3) := by decide +kernel
set_option maxRecDepth 20000 in
theorem dX2_loadRays_31 : decode cX2_loadRays 31 = .ok (.iconst 0, 1) := by decide +kernel
set_option maxRecDepth 20000 in
theorem dX2_loadRays_32 : decode cX2_loadRays 32 = .ok (.istore 4, 2) := by decide +kernel
set_option maxRecDepth 20000 in
theorem dX2_loadRays_34 : decode cX2_loadRays 34 = .ok (.iload 4, 2) := by decide +kernel
set_option maxRecDepth 20000 in
theorem dX2_loadRays_36 : decode cX2_loadRays 36 = .ok (.aload_n 0, 1) := by decide +kernel
set_option maxRecDepth 20000 in
theorem dX2_loadRays_37 : decode cX2_loadRays 37 = .ok (.getfield 19, 3) := by decide +kernel
set_option maxRecDepth 20000 in
theorem dX2_loadRays_40 : decode cX2_loadRays 40 = .ok (.if_icmp .ge 51, 3) := by decide +kernel
set_option maxRecDepth 20000 in
theorem dX2_loadRays_43 : decode cX2_loadRays 43 = .ok (.aload_n 0, 1) := by decide +kernel
set_option maxRecDepth 20000 in
theorem dX2_loadRays_44 : decode cX2_loadRays 44 = .ok (.getfield 31, 3) := by decide +kernel
set_option maxRecDepth 20000 in
theorem dX2_loadRays_47 : decode cX2_loadRays 47 = .ok (.iload_n 3, 1) := by decide +kernel
set_option maxRecDepth 20000 in
theorem dX2_loadRays_48 : decode cX2_loadRays 48 = .ok (.aaload, 1) := by decide +kernel
set_option maxRecDepth 20000 in
theorem dX2_loadRays_49 : decode cX2_loadRays 49 = .ok (.iload 4, 2) := by decide +kernel
set_option maxRecDepth 20000 in
theorem dX2_loadRays_51 : decode cX2_loadRays 51 = .ok (.iload_n 2, 1) := by decide +kernel
set_option maxRecDepth 20000 in
theorem dX2_loadRays_52 : decode cX2_loadRays 52 = .ok (.ifCond .ne 15, 3) := by decide +kernel
set_option maxRecDepth 20000 in
theorem dX2_loadRays_55 : decode cX2_loadRays 55 = .ok (.aload_n 1, 1) := by decide +kernel
set_option maxRecDepth 20000 in
theorem dX2_loadRays_56 : decode cX2_loadRays 56 = .ok (.iconst 2, 1) := by decide +kernel
set_option maxRecDepth 20000 in
theorem dX2_loadRays_57 : decode cX2_loadRays 57 = .ok (.iload 4, 2) := by decide +kernel
set_option maxRecDepth 20000 in
theorem dX2_loadRays_59 : decode cX2_loadRays 59 = .ok (.iload_n 3, 1) := by decide +kernel
set_option maxRecDepth 20000 in
theorem dX2_loadRays_60 : decode cX2_loadRays 60 = .ok (.invokevirtual 83, 3) := by decide +kernel
set_option maxRecDepth 20000 in
theorem dX2_loadRays_63 : decode cX2_loadRays 63 = .ok (.i2l, 1) := by decide +kernel
set_option maxRecDepth 20000 in
theorem dX2_loadRays_64 : decode cX2_loadRays 64 = .ok (.goto 20, 3) := by decide +kernel
set_option maxRecDepth 20000 in
theorem dX2_loadRays_67 : decode cX2_loadRays 67 = .ok (.aload_n 1, 1) := by decide +kernel
set_option maxRecDepth 20000 in
theorem dX2_loadRays_68 : decode cX2_loadRays 68 = .ok (.iconst 1, 1) := by decide +kernel
set_option maxRecDepth 20000 in
theorem dX2_loadRays_69 : decode cX2_loadRays 69 = .ok (.iload_n 3, 1) := by decide +kernel
set_option maxRecDepth 20000 in
theorem dX2_loadRays_70 : decode cX2_loadRays 70 = .ok (.iload 4, 2) := by decide +kernel
set_option maxRecDepth 20000 in
theorem dX2_loadRays_72 : decode cX2_loadRays 72 = .ok (.invokevirtual 83, 3) := by decide +kernel
set_option maxRecDepth 20000 in
theorem dX2_loadRays_75 : decode cX2_loadRays 75 = .ok (.aload_n 1, 1) := by decide +kernel
set_option maxRecDepth 20000 in
theorem dX2_loadRays_76 : decode cX2_loadRays 76 = .ok (.iconst 1, 1) := by decide +kernel
set_option maxRecDepth 20000 in
theorem dX2_loadRays_77 : decode cX2_loadRays 77 = .ok (.iload 4, 2) := by decide +kernel
set_option maxRecDepth 20000 in
theorem dX2_loadRays_79 : decode cX2_loadRays 79 = .ok (.invokevirtual 75, 3) := by decide +kernel
set_option maxRecDepth 20000 in
theorem dX2_loadRays_82 : decode cX2_loadRays 82 = .ok (.imul, 1) := by decide +kernel
set_option maxRecDepth 20000 in
theorem dX2_loadRays_83 : decode cX2_loadRays 83 = .ok (.i2l, 1) := by decide +kernel
set_option maxRecDepth 20000 in
theorem dX2_loadRays_84 : decode cX2_loadRays 84 = .ok (.lastore, 1) := by decide +kernel
set_option maxRecDepth 20000 in
theorem dX2_loadRays_85 : decode cX2_loadRays 85 = .ok (.iinc 4 1, 3) := by decide +kernel
set_option maxRecDepth 20000 in
theorem dX2_loadRays_88 : decode cX2_loadRays 88 = .ok (.goto (-54), 3) := by decide +kernel
set_option maxRecDepth 20000 in
theorem dX2_loadRays_91 : decode cX2_loadRays 91 = .ok (.iinc 3 1, 3) := by decide +kernel
set_option maxRecDepth 20000 in
theorem dX2_loadRays_94 : decode cX2_loadRays 94 = .ok (.goto (-71), 3) := by decide +kernel
set_option maxRecDepth 20000 in
theorem dX2_loadRays_97 : decode cX2_loadRays 97 = .ok (.return_, 1) := by decide +kernel
set_option maxRecDepth 20000 in
theorem dX2_castShadow_0 : decode cX2_castShadow 0 = .ok (.aload_n 0, 1) := by decide +kernel
set_option maxRecDepth 20000 in
theorem dX2_castShadow_1 : decode cX2_castShadow 1 = .ok (.invokevirtual 87, 3) := by decide +kernel
set_option maxRecDepth 20000 in
theorem dX2_castShadow_4 : decode cX2_castShadow 4 = .ok (.aload_n 0, 1) := by decide +kernel
set_option maxRecDepth 20000 in
theorem dX2_castShadow_5 : decode cX2_castShadow 5 = .ok (.invokevirtual 90, 3) := by decide +kernel
set_option maxRecDepth 20000 in
theorem dX2_castShadow_8 : decode cX2_castShadow 8 = .ok (.iconst 0, 1) := by decide +kernel
set_option maxRecDepth 20000 in
theorem dX2_castShadow_9 : decode cX2_castShadow 9 = .ok (.istore_n 1, 1) := by decide +kernel
set_option maxRecDepth 20000 in
theorem dX2_castShadow_10 : decode cX2_castShadow 10 = .ok (.iload_n 1, 1) := by decide +kernel
set_option maxRecDepth 20000 in
theorem dX2_castShadow_11 : decode cX2_castShadow 11 = .ok (.aload_n 0, 1) := by decide +kernel
set_option maxRecDepth 20000 in
theorem dX2_castShadow_12 : decode cX2_castShadow 12 = .ok (.getfield 19, 3) := by decide +kernel
set_option maxRecDepth 20000 in
theorem dX2_castShadow_15 : decode cX2_castShadow 15 = .ok (.if_icmp .ge 61, 3) := by decide +kernel
set_option maxRecDepth 20000 in
theorem dX2_castShadow_18 : decode cX2_castShadow 18 = .ok (.aload_n 0, 1) := by decide +kernel
set_option maxRecDepth 20000 in
theorem dX2_castShadow_19 : decode cX2_castShadow 19 = .ok (.getfield 40, 3) := by decide +kernel
set_option maxRecDepth 20000 in
theorem dX2_castShadow_22 : decode cX2_castShadow 22 = .ok (.iload_n 1, 1) := by decide +kernel
set_option maxRecDepth 20000 in
theorem dX2_castShadow_23 : decode cX2_castShadow 23 = .ok (.lconst 0, 1) := by decide +kernel
set_option maxRecDepth 20000 in
theorem dX2_castShadow_24 : decode cX2_castShadow 24 = .ok (.lastore, 1) := by decide +kernel
set_option maxRecDepth 20000 in
theorem dX2_castShadow_25 : decode cX2_castShadow 25 = .ok (.iconst 0, 1) := by decide +kernel
set_option maxRecDepth 20000 in
theorem dX2_castShadow_26 : decode cX2_castShadow 26 = .ok (.istore_n 2, 1) := by decide +kernel
set_option maxRecDepth 20000 in
theorem dX2_castShadow_27 : decode cX2_castShadow 27 = .ok (.iload_n 2, 1) := by decide +kernel
set_option maxRecDepth 20000 in
theorem dX2_castShadow_28 : decode cX2_castShadow 28 = .ok (.aload_n 0, 1) := by decide +kernel
set_option maxRecDepth 20000 in
theorem dX2_castShadow_29 : decode cX2_castShadow 29 = .ok (.getfield 34, 3) := by decide +kernel
set_option maxRecDepth 20000 in
theorem dX2_castShadow_32 : decode cX2_castShadow 32 = .ok (.if_icmp .ge 38, 3) := by decide +kernel
set_option maxRecDepth 20000 in
theorem dX2_castShadow_35 : decode cX2_castShadow 35 = .ok (.aload_n 0, 1) := by decide +kernel
set_option maxRecDepth 20000 in
theorem dX2_castShadow_36 : decode cX2_castShadow 36 = .ok (.getfield 40, 3) := by decide +kernel
set_option maxRecDepth 20000 in
theorem dX2_castShadow_39 : decode cX2_castShadow 39 = .ok (.iload_n 1, 1) := by decide +kernel
set_option maxRecDepth 20000 in
theorem dX2_castShadow_40 : decode cX2_castShadow 40 = .ok (.dup2, 1) := by decide +kernel
set_option maxRecDepth 20000 in
theorem dX2_castShadow_41 : decode cX2_castShadow 41 = .ok (.laload, 1) := by decide +kernel
set_option maxRecDepth 20000 in
theorem dX2_castShadow_42 : decode cX2_castShadow 42 = .ok (.aload_n 0, 1) := by decide +kernel
set_option maxRecDepth 20000 in
theorem dX2_castShadow_43 : decode cX2_castShadow 43 = .ok (.getfield 37, 3) := by decide +kernel
set_option maxRecDepth 20000 in
theorem dX2_castShadow_46 : decode cX2_castShadow 46 = .ok (.iload_n 2, 1) := by decide +kernel
set_option maxRecDepth 20000 in
theorem dX2_castShadow_47 : decode cX2_castShadow 47 = .ok (.aaload, 1) := by decide +kernel
set_option maxRecDepth 20000 in
theorem dX2_castShadow_48 : decode cX2_castShadow 48 = .ok (.aload_n 0, 1) := by decide +kernel
set_option maxRecDepth 20000 in
theorem dX2_castShadow_49 : decode cX2_castShadow 49 = .ok (.getfield 34, 3) := by decide +kernel
set_option maxRecDepth 20000 in
theorem dX2_castShadow_52 : decode cX2_castShadow 52 = .ok (.laload, 1) := by decide +kernel
set_option maxRecDepth 20000 in
theorem dX2_castShadow_53 : decode cX2_castShadow 53 = .ok (.aload_n 0, 1) := by decide +kernel
set_option maxRecDepth 20000 in
theorem dX2_castShadow_54 : decode cX2_castShadow 54 = .ok (.getfield 31, 3) := by decide +kernel
set_option maxRecDepth 20000 in
theorem dX2_castShadow_57 : decode cX2_castShadow 57 = .ok (.iload_n 2, 1) := by decide +kernel
set_option maxRecDepth 20000 in
theorem dX2_castShadow_58 : decode cX2_castShadow 58 = .ok (.aaload, 1) := by decide +kernel
set_option maxRecDepth 20000 in
theorem dX2_castShadow_59 : decode cX2_castShadow 59 = .ok (.iload_n 1, 1) := by decide +kernel
set_option maxRecDepth 20000 in
theorem dX2_castShadow_60 : decode cX2_castShadow 60 = .ok (.laload, 1) := by decide +kernel
set_option maxRecDepth 20000 in
theorem dX2_castShadow_61 : decode cX2_castShadow 61 = .ok (.lmul, 1) := by decide +kernel
set_option maxRecDepth 20000 in
theorem dX2_castShadow_62 : decode cX2_castShadow 62 = .ok (.ladd, 1) := by decide +kernel
set_option maxRecDepth 20000 in
theorem dX2_castShadow_63 : decode cX2_castShadow 63 = .ok (.lastore, 1) := by decide +kernel
set_option maxRecDepth 20000 in
theorem dX2_castShadow_64 : decode cX2_castShadow 64 = .ok (.iinc 2 1, 3) := by decide +kernel
set_option maxRecDepth 20000 in
theorem dX2_castShadow_67 : decode cX2_castShadow 67 = .ok (.goto (-40), 3) := by decide +kernel
set_option maxRecDepth 20000 in
theorem dX2_castShadow_70 : decode cX2_castShadow 70 = .ok (.iinc 1 1, 3) := by decide +kernel
set_option maxRecDepth 20000 in
theorem dX2_castShadow_73 : decode cX2_castShadow 73 = .ok (.goto (-63), 3) := by decide +kernel
set_option maxRecDepth 20000 in
theorem dX2_castShadow_76 : decode cX2_castShadow 76 = .ok (.aload_n 0, 1) := by decide +kernel
set_option maxRecDepth 20000 in
theorem dX2_castShadow_77 : decode cX2_castShadow 77 = .ok (.invokevirtual 93, 3) := by decide +kernel
set_option maxRecDepth 20000 in
theorem dX2_castShadow_80 : decode cX2_castShadow 80 = .ok (.return_, 1) := by decide +kernel
set_option maxRecDepth 20000 in
theorem dX2_fillSystem_0 : decode cX2_fillSystem 0 = .ok (.iconst 0, 1) := by decide +kernel
set_option maxRecDepth 20000 in
theorem dX2_fillSystem_1 : decode cX2_fillSystem 1 = .ok (.istore_n 1, 1) := by decide +kernel
set_option maxRecDepth 20000 in
theorem dX2_fillSystem_2 : decode cX2_fillSystem 2 = .ok (.iload_n 1, 1) := by decide +kernel
set_option maxRecDepth 20000 in
theorem dX2_fillSystem_3 : decode cX2_fillSystem 3 = .ok (.aload_n 0, 1) := by decide +kernel
set_option maxRecDepth 20000 in
theorem dX2_fillSystem_4 : decode cX2_fillSystem 4 = .ok (.getfield 34, 3) := by decide +kernel
set_option maxRecDepth 20000 in
theorem dX2_fillSystem_7 : decode cX2_fillSystem 7 = .ok (.if_icmp .ge 74, 3) := by decide +kernel
set_option maxRecDepth 20000 in
theorem dX2_fillSystem_10 : decode cX2_fillSystem 10 = .ok (.iconst 0, 1) := by decide +kernel
set_option maxRecDepth 20000 in
theorem dX2_fillSystem_11 : decode cX2_fillSystem 11 = .ok (.istore_n 2, 1) := by decide +kernel
set_option maxRecDepth 20000 in
theorem dX2_fillSystem_12 : decode cX2_fillSystem 12 = .ok (.iload_n 2, 1) := by decide +kernel
set_option maxRecDepth 20000 in
theorem dX2_fillSystem_13 : decode cX2_fillSystem 13 = .ok (.aload_n 0, 1) := by decide +kernel
set_option maxRecDepth 20000 in
theorem dX2_fillSystem_14 : decode cX2_fillSystem 14 = .ok (.getfield 34, 3) := by decide +kernel
set_option maxRecDepth 20000 in
theorem dX2_fillSystem_17 : decode cX2_fillSystem 17 = .ok (.if_icmp .ge 33, 3) := by decide +kernel
set_option maxRecDepth 20000 in
theorem dX2_fillSystem_20 : decode cX2_fillSystem 20 = .ok (.aload_n 0, 1) := by decide +kernel
set_option maxRecDepth 20000 in
theorem dX2_fillSystem_21 : decode cX2_fillSystem 21 = .ok (.getfield 37, 3) := by decide +kernel
set_option maxRecDepth 20000 in
theorem dX2_fillSystem_24 : decode cX2_fillSystem 24 = .ok (.iload_n 1, 1) := by decide +kernel
set_option maxRecDepth 20000 in
theorem dX2_fillSystem_25 : decode cX2_fillSystem 25 = .ok (.aaload, 1) := by decide +kernel
set_option maxRecDepth 20000 in
theorem dX2_fillSystem_26 : decode cX2_fillSystem 26 = .ok (.iload_n 2, 1) := by decide +kernel
set_option maxRecDepth 20000 in
theorem dX2_fillSystem_27 : decode cX2_fillSystem 27 = .ok (.aload_n 0, 1) := by decide +kernel
set_option maxRecDepth 20000 in
theorem dX2_fillSystem_28 : decode cX2_fillSystem 28 = .ok (.aload_n 0, 1) := by decide +kernel
set_option maxRecDepth 20000 in
theorem dX2_fillSystem_29 : decode cX2_fillSystem 29 = .ok (.getfield 31, 3) := by decide +kernel
set_option maxRecDepth 20000 in
theorem dX2_fillSystem_32 : decode cX2_fillSystem 32 = .ok (.iload_n 1, 1) := by decide +kernel
set_option maxRecDepth 20000 in
theorem dX2_fillSystem_33 : decode cX2_fillSystem 33 = .ok (.aaload, 1) := by decide +kernel
set_option maxRecDepth 20000 in
theorem dX2_fillSystem_34 : decode cX2_fillSystem 34 = .ok (.aload_n 0, 1) := by decide +kernel
set_option maxRecDepth 20000 in
theorem dX2_fillSystem_35 : decode cX2_fillSystem 35 = .ok (.getfield 31, 3) := by decide +kernel
set_option maxRecDepth 20000 in
theorem dX2_fillSystem_38 : decode cX2_fillSystem 38 = .ok (.iload_n 2, 1) := by decide +kernel
set_option maxRecDepth 20000 in
theorem dX2_fillSystem_39 : decode cX2_fillSystem 39 = .ok (.aaload, 1) := by decide +kernel
set_option maxRecDepth 20000 in
theorem dX2_fillSystem_40 : decode cX2_fillSystem 40 = .ok (.invokevirtual 96, 3) := by decide +kernel
set_option maxRecDepth 20000 in
theorem dX2_fillSystem_43 : decode cX2_fillSystem 43 = .ok (.lastore, 1) := by decide +kernel
set_option maxRecDepth 20000 in
theorem dX2_fillSystem_44 : decode cX2_fillSystem 44 = .ok (.iinc 2 1, 3) := by decide +kernel
set_option maxRecDepth 20000 in
theorem dX2_fillSystem_47 : decode cX2_fillSystem 47 = .ok (.goto (-35), 3) := by decide +kernel
set_option maxRecDepth 20000 in
theorem dX2_fillSystem_50 : decode cX2_fillSystem 50 = .ok (.aload_n 0, 1) := by decide +kernel
set_option maxRecDepth 20000 in
theorem dX2_fillSystem_51 : decode cX2_fillSystem 51 = .ok (.getfield 37, 3) := by decide +kernel
set_option maxRecDepth 20000 in
theorem dX2_fillSystem_54 : decode cX2_fillSystem 54 = .ok (.iload_n 1, 1) := by decide +kernel
set_option maxRecDepth 20000 in
theorem dX2_fillSystem_55 : decode cX2_fillSystem 55 = .ok (.aaload, 1) := by decide +kernel
set_option maxRecDepth 20000 in
theorem dX2_fillSystem_56 : decode cX2_fillSystem 56 = .ok (.aload_n 0, 1) := by decide +kernel
set_option maxRecDepth 20000 in
theorem dX2_fillSystem_57 : decode cX2_fillSystem 57 = .ok (.getfield 34, 3) := by decide +kernel
set_option maxRecDepth 20000 in
theorem dX2_fillSystem_60 : decode cX2_fillSystem 60 = .ok (.aload_n 0, 1) := by decide +kernel
set_option maxRecDepth 20000 in
theorem dX2_fillSystem_61 : decode cX2_fillSystem 61 = .ok (.aload_n 0, 1) := by decide +kernel
set_option maxRecDepth 20000 in
theorem dX2_fillSystem_62 : decode cX2_fillSystem 62 = .ok (.getfield 31, 3) := by decide +kernel
set_option maxRecDepth 20000 in
theorem dX2_fillSystem_65 : decode cX2_fillSystem 65 = .ok (.iload_n 1, 1) := by decide +kernel
set_option maxRecDepth 20000 in
theorem dX2_fillSystem_66 : decode cX2_fillSystem 66 = .ok (.aaload, 1) := by decide +kernel
set_option maxRecDepth 20000 in
theorem dX2_fillSystem_67 : decode cX2_fillSystem 67 = .ok (.aload_n 0, 1) := by decide +kernel
set_option maxRecDepth 20000 in
theorem dX2_fillSystem_68 : decode cX2_fillSystem 68 = .ok (.getfield 23, 3) := by decide +kernel
set_option maxRecDepth 20000 in
theorem dX2_fillSystem_71 : decode cX2_fillSystem 71 = .ok (.invokevirtual 96, 3) := by decide +kernel
set_option maxRecDepth 20000 in
theorem dX2_fillSystem_74 : decode cX2_fillSystem 74 = .ok (.lastore, 1) := by decide +kernel
set_option maxRecDepth 20000 in
theorem dX2_fillSystem_75 : decode cX2_fillSystem 75 = .ok (.iinc 1 1, 3) := by decide +kernel
set_option maxRecDepth 20000 in
theorem dX2_fillSystem_78 : decode cX2_fillSystem 78 = .ok (.goto (-76), 3) := by decide +kernel
set_option maxRecDepth 20000 in
theorem dX2_fillSystem_81 : decode cX2_fillSystem 81 = .ok (.return_, 1) := by decide +kernel
set_option maxRecDepth 20000 in
theorem dX2_product_0 : decode cX2_product 0 = .ok (.lconst 0, 1) := by decide +kernel
set_option maxRecDepth 20000 in
theorem dX2_product_1 : decode cX2_product 1 = .ok (.lstore_n 3, 1) := by decide +kernel
set_option maxRecDepth 20000 in
theorem dX2_product_2 : decode cX2_product 2 = .ok (.iconst 0, 1) := by decide +kernel
set_option maxRecDepth 20000 in
theorem dX2_product_3 : decode cX2_product 3 = .ok (.istore 5, 2) := by decide +kernel
set_option maxRecDepth 20000 in
theorem dX2_product_5 : decode cX2_product 5 = .ok (.iload 5, 2) := by decide +kernel
set_option maxRecDepth 20000 in
theorem dX2_product_7 : decode cX2_product 7 = .ok (.aload_n 0, 1) := by decide +kernel
set_option maxRecDepth 20000 in
theorem dX2_product_8 : decode cX2_product 8 = .ok (.getfield 19, 3) := by decide +kernel
set_option maxRecDepth 20000 in
theorem dX2_product_11 : decode cX2_product 11 = .ok (.if_icmp .ge 29, 3) := by decide +kernel
set_option maxRecDepth 20000 in
theorem dX2_product_14 : decode cX2_product 14 = .ok (.lload_n 3, 1) := by decide +kernel
set_option maxRecDepth 20000 in
theorem dX2_product_15 : decode cX2_product 15 = .ok (.aload_n 1, 1) := by decide +kernel
set_option maxRecDepth 20000 in
theorem dX2_product_16 : decode cX2_product 16 = .ok (.iload 5, 2) := by decide +kernel
set_option maxRecDepth 20000 in
theorem dX2_product_18 : decode cX2_product 18 = .ok (.laload, 1) := by decide +kernel
set_option maxRecDepth 20000 in
theorem dX2_product_19 : decode cX2_product 19 = .ok (.aload_n 2, 1) := by decide +kernel
set_option maxRecDepth 20000 in
theorem dX2_product_20 : decode cX2_product 20 = .ok (.iload 5, 2) := by decide +kernel
set_option maxRecDepth 20000 in
theorem dX2_product_22 : decode cX2_product 22 = .ok (.laload, 1) := by decide +kernel
set_option maxRecDepth 20000 in
theorem dX2_product_23 : decode cX2_product 23 = .ok (.lmul, 1) := by decide +kernel
set_option maxRecDepth 20000 in
theorem dX2_product_24 : decode cX2_product 24 = .ok (.aload_n 0, 1) := by decide +kernel
set_option maxRecDepth 20000 in
theorem dX2_product_25 : decode cX2_product 25 = .ok (.getfield 26, 3) := by decide +kernel
set_option maxRecDepth 20000 in
theorem dX2_product_28 : decode cX2_product 28 = .ok (.iload 5, 2) := by decide +kernel
set_option maxRecDepth 20000 in
theorem dX2_product_30 : decode cX2_product 30 = .ok (.laload, 1) := by decide +kernel
set_option maxRecDepth 20000 in
theorem dX2_product_31 : decode cX2_product 31 = .ok (.lmul, 1) := by decide +kernel
set_option maxRecDepth 20000 in
theorem dX2_product_32 : decode cX2_product 32 = .ok (.ladd, 1) := by decide +kernel
set_option maxRecDepth 20000 in
theorem dX2_product_33 : decode cX2_product 33 = .ok (.lstore_n 3, 1) := by decide +kernel
set_option maxRecDepth 20000 in
theorem dX2_product_34 : decode cX2_product 34 = .ok (.iinc 5 1, 3) := by decide +kernel
set_option maxRecDepth 20000 in
theorem dX2_product_37 : decode cX2_product 37 = .ok (.goto (-32), 3) := by decide +kernel
set_option maxRecDepth 20000 in
theorem dX2_product_40 : decode cX2_product 40 = .ok (.lload_n 3, 1) := by decide +kernel
set_option maxRecDepth 20000 in
theorem dX2_product_41 : decode cX2_product 41 = .ok (.lreturn, 1) := by decide +kernel
set_option maxRecDepth 20000 in
theorem dX2_solveSystem_0 : decode cX2_solveSystem 0 = .ok (.lconst 1, 1) := by decide +kernel
set_option maxRecDepth 20000 in
theorem dX2_solveSystem_1 : decode cX2_solveSystem 1 = .ok (.lstore_n 1, 1) := by decide +kernel
set_option maxRecDepth 20000 in
theorem dX2_solveSystem_2 : decode cX2_solveSystem 2 = .ok (.iconst 0, 1) := by decide +kernel
set_option maxRecDepth 20000 in
theorem dX2_solveSystem_3 : decode cX2_solveSystem 3 = .ok (.istore_n 3, 1) := by decide +kernel
set_option maxRecDepth 20000 in
theorem dX2_solveSystem_4 : decode cX2_solveSystem 4 = .ok (.iload_n 3, 1) := by decide +kernel
set_option maxRecDepth 20000 in
theorem dX2_solveSystem_5 : decode cX2_solveSystem 5 = .ok (.aload_n 0, 1) := by decide +kernel
set_option maxRecDepth 20000 in
theorem dX2_solveSystem_6 : decode cX2_solveSystem 6 = .ok (.getfield 34, 3) := by decide +kernel
set_option maxRecDepth 20000 in
theorem dX2_solveSystem_9 : decode cX2_solveSystem 9 = .ok (.if_icmp .ge 64, 3) := by decide +kernel
set_option maxRecDepth 20000 in
theorem dX2_solveSystem_12 : decode cX2_solveSystem 12 = .ok (.aload_n 0, 1) := by decide +kernel
set_option maxRecDepth 20000 in
theorem dX2_solveSystem_13 : decode cX2_solveSystem 13 = .ok (.getfield 37, 3) := by decide +kernel
set_option maxRecDepth 20000 in
theorem dX2_solveSystem_16 : decode cX2_solveSystem 16 = .ok (.iload_n 3, 1) := by decide +kernel
set_option maxRecDepth 20000 in
theorem dX2_solveSystem_17 : decode cX2_solveSystem 17 = .ok (.aaload, 1) := by decide +kernel
set_option maxRecDepth 20000 in
theorem dX2_solveSystem_18 : decode cX2_solveSystem 18 = .ok (.iload_n 3, 1) := by decide +kernel
set_option maxRecDepth 20000 in
theorem dX2_solveSystem_19 : decode cX2_solveSystem 19 = .ok (.laload, 1) := by decide +kernel
set_option maxRecDepth 20000 in
theorem dX2_solveSystem_20 : decode cX2_solveSystem 20 = .ok (.lstore 4, 2) := by decide +kernel
set_option maxRecDepth 20000 in
theorem dX2_solveSystem_22 : decode cX2_solveSystem 22 = .ok (.lload 4, 2) := by decide +kernel
set_option maxRecDepth 20000 in
theorem dX2_solveSystem_24 : decode cX2_solveSystem 24 = .ok (.lconst 0, 1) := by decide +kernel
set_option maxRecDepth 20000 in
theorem dX2_solveSystem_25 : decode cX2_solveSystem 25 = .ok (.lcmp, 1) := by decide +kernel
set_option maxRecDepth 20000 in
theorem dX2_solveSystem_26 : decode cX2_solveSystem 26 = .ok (.ifCond .ne 6, 3) := by decide +kernel
set_option maxRecDepth 20000 in
theorem dX2_solveSystem_29 : decode cX2_solveSystem 29 = .ok (.goto 38, 3) := by decide +kernel
set_option maxRecDepth 20000 in
theorem dX2_solveSystem_32 : decode cX2_solveSystem 32 = .ok (.iconst 0, 1) := by decide +kernel
set_option maxRecDepth 20000 in
theorem dX2_solveSystem_33 : decode cX2_solveSystem 33 = .ok (.istore 6, 2) := by decide +kernel
set_option maxRecDepth 20000 in
theorem dX2_solveSystem_35 : decode cX2_solveSystem 35 = .ok (.iload 6, 2) := by decide +kernel
set_option maxRecDepth 20000 in
theorem dX2_solveSystem_37 : decode cX2_solveSystem 37 = .ok (.aload_n 0, 1) := by decide +kernel
set_option maxRecDepth 20000 in
theorem dX2_solveSystem_38 : decode cX2_solveSystem 38 = .ok (.getfield 34, 3) := by decide +kernel
set_option maxRecDepth 20000 in
theorem dX2_solveSystem_41 : decode cX2_solveSystem 41 = .ok (.if_icmp .ge 23, 3) := by decide +kernel
set_option maxRecDepth 20000 in
theorem dX2_solveSystem_44 : decode cX2_solveSystem 44 = .ok (.iload 6, 2) := by decide +kernel
set_option maxRecDepth 20000 in
theorem dX2_solveSystem_46 : decode cX2_solveSystem 46 = .ok (.iload_n 3, 1) := by decide +kernel
set_option maxRecDepth 20000 in
theorem dX2_solveSystem_47 : decode cX2_solveSystem 47 = .ok (.if_icmp .eq 11, 3) := by decide +kernel
set_option maxRecDepth 20000 in
theorem dX2_solveSystem_50 : decode cX2_solveSystem 50 = .ok (.aload_n 0, 1) := by decide +kernel
set_option maxRecDepth 20000 in
theorem dX2_solveSystem_51 : decode cX2_solveSystem 51 = .ok (.iload 6, 2) := by decide +kernel
set_option maxRecDepth 20000 in
theorem dX2_solveSystem_53 : decode cX2_solveSystem 53 = .ok (.iload_n 3, 1) := by decide +kernel
set_option maxRecDepth 20000 in
theorem dX2_solveSystem_54 : decode cX2_solveSystem 54 = .ok (.lload_n 1, 1) := by decide +kernel
set_option maxRecDepth 20000 in
theorem dX2_solveSystem_55 : decode cX2_solveSystem 55 = .ok (.invokevirtual 100, 3) := by decide +kernel
set_option maxRecDepth 20000 in
theorem dX2_solveSystem_58 : decode cX2_solveSystem 58 = .ok (.iinc 6 1, 3) := by decide +kernel
set_option maxRecDepth 20000 in
theorem dX2_solveSystem_61 : decode cX2_solveSystem 61 = .ok (.goto (-26), 3) := by decide +kernel
set_option maxRecDepth 20000 in
theorem dX2_solveSystem_64 : decode cX2_solveSystem 64 = .ok (.lload 4, 2) := by decide +kernel
set_option maxRecDepth 20000 in
theorem dX2_solveSystem_66 : decode cX2_solveSystem 66 = .ok (.lstore_n 1, 1) := by decide +kernel
set_option maxRecDepth 20000 in
theorem dX2_solveSystem_67 : decode cX2_solveSystem 67 = .ok (.iinc 3 1, 3) := by decide +kernel
set_option maxRecDepth 20000 in
theorem dX2_solveSystem_70 : decode cX2_solveSystem 70 = .ok (.goto (-66), 3) := by decide +kernel
set_option maxRecDepth 20000 in
theorem dX2_solveSystem_73 : decode cX2_solveSystem 73 = .ok (.aload_n 0, 1) := by decide +kernel
set_option maxRecDepth 20000 in
theorem dX2_solveSystem_74 : decode cX2_solveSystem 74 = .ok (.lload_n 1, 1) := by decide +kernel
set_option maxRecDepth 20000 in
theorem dX2_solveSystem_75 : decode cX2_solveSystem 75 = .ok (.putfield 43, 3) := by decide +kernel
set_option maxRecDepth 20000 in
theorem dX2_solveSystem_78 : decode cX2_solveSystem 78 = .ok (.return_, 1) := by decide +kernel
set_option maxRecDepth 20000 in
theorem dX2_eliminate_0 : decode cX2_eliminate 0 = .ok (.lload_n 3, 1) := by decide +kernel
set_option maxRecDepth 20000 in
theorem dX2_eliminate_1 : decode cX2_eliminate 1 = .ok (.lconst 0, 1) := by decide +kernel
set_option maxRecDepth 20000 in
theorem dX2_eliminate_2 : decode cX2_eliminate 2 = .ok (.lcmp, 1) := by decide +kernel
set_option maxRecDepth 20000 in
theorem dX2_eliminate_3 : decode cX2_eliminate 3 = .ok (.ifCond .eq 19, 3) := by decide +kernel
set_option maxRecDepth 20000 in
theorem dX2_eliminate_6 : decode cX2_eliminate 6 = .ok (.iload_n 1, 1) := by decide +kernel
set_option maxRecDepth 20000 in
theorem dX2_eliminate_7 : decode cX2_eliminate 7 = .ok (.iconst 5, 1) := by decide +kernel
set_option maxRecDepth 20000 in
theorem dX2_eliminate_8 : decode cX2_eliminate 8 = .ok (.invokestatic 46, 3) := by decide +kernel
set_option maxRecDepth 20000 in
theorem dX2_eliminate_11 : decode cX2_eliminate 11 = .ok (.ifCond .eq 11, 3) := by decide +kernel
set_option maxRecDepth 20000 in
theorem dX2_eliminate_14 : decode cX2_eliminate 14 = .ok (.iload_n 2, 1) := by decide +kernel
set_option maxRecDepth 20000 in
theorem dX2_eliminate_15 : decode cX2_eliminate 15 = .ok (.iconst 5, 1) := by decide +kernel
set_option maxRecDepth 20000 in
theorem dX2_eliminate_16 : decode cX2_eliminate 16 = .ok (.invokestatic 46, 3) := by decide +kernel
set_option maxRecDepth 20000 in
theorem dX2_eliminate_19 : decode cX2_eliminate 19 = .ok (.ifCond .ne 4, 3) := by decide +kernel
set_option maxRecDepth 20000 in
theorem dX2_eliminate_22 : decode cX2_eliminate 22 = .ok (.return_, 1) := by decide +kernel
set_option maxRecDepth 20000 in
theorem dX2_eliminate_23 : decode cX2_eliminate 23 = .ok (.aload_n 0, 1) := by decide +kernel
set_option maxRecDepth 20000 in
theorem dX2_eliminate_24 : decode cX2_eliminate 24 = .ok (.getfield 37, 3) := by decide +kernel
set_option maxRecDepth 20000 in
theorem dX2_eliminate_27 : decode cX2_eliminate 27 = .ok (.iload_n 2, 1) := by decide +kernel
set_option maxRecDepth 20000 in
theorem dX2_eliminate_28 : decode cX2_eliminate 28 = .ok (.aaload, 1) := by decide +kernel
set_option maxRecDepth 20000 in
theorem dX2_eliminate_29 : decode cX2_eliminate 29 = .ok (.iload_n 2, 1) := by decide +kernel
set_option maxRecDepth 20000 in
theorem dX2_eliminate_30 : decode cX2_eliminate 30 = .ok (.laload, 1) := by decide +kernel
set_option maxRecDepth 20000 in
theorem dX2_eliminate_31 : decode cX2_eliminate 31 = .ok (.lstore 5, 2) := by decide +kernel
set_option maxRecDepth 20000 in
theorem dX2_eliminate_33 : decode cX2_eliminate 33 = .ok (.aload_n 0, 1) := by decide +kernel
set_option maxRecDepth 20000 in
theorem dX2_eliminate_34 : decode cX2_eliminate 34 = .ok (.getfield 37, 3) := by decide +kernel
set_option maxRecDepth 20000 in
theorem dX2_eliminate_37 : decode cX2_eliminate 37 = .ok (.iload_n 1, 1) := by decide +kernel
set_option maxRecDepth 20000 in
theorem dX2_eliminate_38 : decode cX2_eliminate 38 = .ok (.aaload, 1) := by decide +kernel
set_option maxRecDepth 20000 in
theorem dX2_eliminate_39 : decode cX2_eliminate 39 = .ok (.iload_n 2, 1) := by decide +kernel
set_option maxRecDepth 20000 in
theorem dX2_eliminate_40 : decode cX2_eliminate 40 = .ok (.laload, 1) := by decide +kernel
set_option maxRecDepth 20000 in
theorem dX2_eliminate_41 : decode cX2_eliminate 41 = .ok (.lstore 7, 2) := by decide +kernel
set_option maxRecDepth 20000 in
theorem dX2_eliminate_43 : decode cX2_eliminate 43 = .ok (.iconst 0, 1) := by decide +kernel
set_option maxRecDepth 20000 in
theorem dX2_eliminate_44 : decode cX2_eliminate 44 = .ok (.istore 9, 2) := by decide +kernel
set_option maxRecDepth 20000 in
theorem dX2_eliminate_46 : decode cX2_eliminate 46 = .ok (.iload 9, 2) := by decide +kernel
set_option maxRecDepth 20000 in
theorem dX2_eliminate_48 : decode cX2_eliminate 48 = .ok (.aload_n 0, 1) := by decide +kernel
set_option maxRecDepth 20000 in
theorem dX2_eliminate_49 : decode cX2_eliminate 49 = .ok (.getfield 34, 3) := by decide +kernel
set_option maxRecDepth 20000 in
theorem dX2_eliminate_52 : decode cX2_eliminate 52 = .ok (.if_icmp .gt 51, 3) := by decide +kernel
set_option maxRecDepth 20000 in
theorem dX2_eliminate_55 : decode cX2_eliminate 55 = .ok (.iload 9, 2) := by decide +kernel
set_option maxRecDepth 20000 in
theorem dX2_eliminate_57 : decode cX2_eliminate 57 = .ok (.iconst 5, 1) := by decide +kernel
set_option maxRecDepth 20000 in
theorem dX2_eliminate_58 : decode cX2_eliminate 58 = .ok (.if_icmp .gt 45, 3) := by decide +kernel
set_option maxRecDepth 20000 in
theorem dX2_eliminate_61 : decode cX2_eliminate 61 = .ok (.aload_n 0, 1) := by decide +kernel
set_option maxRecDepth 20000 in
theorem dX2_eliminate_62 : decode cX2_eliminate 62 = .ok (.getfield 37, 3) := by decide +kernel
set_option maxRecDepth 20000 in
theorem dX2_eliminate_65 : decode cX2_eliminate 65 = .ok (.iload_n 1, 1) := by decide +kernel
set_option maxRecDepth 20000 in
theorem dX2_eliminate_66 : decode cX2_eliminate 66 = .ok (.aaload, 1) := by decide +kernel
set_option maxRecDepth 20000 in
theorem dX2_eliminate_67 : decode cX2_eliminate 67 = .ok (.iload 9, 2) := by decide +kernel
set_option maxRecDepth 20000 in
theorem dX2_eliminate_69 : decode cX2_eliminate 69 = .ok (.lload 5, 2) := by decide +kernel
set_option maxRecDepth 20000 in
theorem dX2_eliminate_71 : decode cX2_eliminate 71 = .ok (.aload_n 0, 1) := by decide +kernel
set_option maxRecDepth 20000 in
theorem dX2_eliminate_72 : decode cX2_eliminate 72 = .ok (.getfield 37, 3) := by decide +kernel
set_option maxRecDepth 20000 in
theorem dX2_eliminate_75 : decode cX2_eliminate 75 = .ok (.iload_n 1, 1) := by decide +kernel
set_option maxRecDepth 20000 in
theorem dX2_eliminate_76 : decode cX2_eliminate 76 = .ok (.aaload, 1) := by decide +kernel
set_option maxRecDepth 20000 in
theorem dX2_eliminate_77 : decode cX2_eliminate 77 = .ok (.iload 9, 2) := by decide +kernel
set_option maxRecDepth 20000 in
theorem dX2_eliminate_79 : decode cX2_eliminate 79 = .ok (.laload, 1) := by decide +kernel
set_option maxRecDepth 20000 in
theorem dX2_eliminate_80 : decode cX2_eliminate 80 = .ok (.lmul, 1) := by decide +kernel
set_option maxRecDepth 20000 in
theorem dX2_eliminate_81 : decode cX2_eliminate 81 = .ok (.lload 7, 2) := by decide +kernel
set_option maxRecDepth 20000 in
theorem dX2_eliminate_83 : decode cX2_eliminate 83 = .ok (.aload_n 0, 1) := by decide +kernel
set_option maxRecDepth 20000 in
theorem dX2_eliminate_84 : decode cX2_eliminate 84 = .ok (.getfield 37, 3) := by decide +kernel
set_option maxRecDepth 20000 in
theorem dX2_eliminate_87 : decode cX2_eliminate 87 = .ok (.iload_n 2, 1) := by decide +kernel
set_option maxRecDepth 20000 in
theorem dX2_eliminate_88 : decode cX2_eliminate 88 = .ok (.aaload, 1) := by decide +kernel
set_option maxRecDepth 20000 in
theorem dX2_eliminate_89 : decode cX2_eliminate 89 = .ok (.iload 9, 2) := by decide +kernel
set_option maxRecDepth 20000 in
theorem dX2_eliminate_91 : decode cX2_eliminate 91 = .ok (.laload, 1) := by decide +kernel
set_option maxRecDepth 20000 in
theorem dX2_eliminate_92 : decode cX2_eliminate 92 = .ok (.lmul, 1) := by decide +kernel
set_option maxRecDepth 20000 in
theorem dX2_eliminate_93 : decode cX2_eliminate 93 = .ok (.lsub, 1) := by decide +kernel
set_option maxRecDepth 20000 in
theorem dX2_eliminate_94 : decode cX2_eliminate 94 = .ok (.lload_n 3, 1) := by decide +kernel
set_option maxRecDepth 20000 in
theorem dX2_eliminate_95 : decode cX2_eliminate 95 = .ok (.ldiv, 1) := by decide +kernel
set_option maxRecDepth 20000 in
theorem dX2_eliminate_96 : decode cX2_eliminate 96 = .ok (.lastore, 1) := by decide +kernel
set_option maxRecDepth 20000 in
theorem dX2_eliminate_97 : decode cX2_eliminate 97 = .ok (.iinc 9 1, 3) := by decide +kernel
set_option maxRecDepth 20000 in
theorem dX2_eliminate_100 : decode cX2_eliminate 100 = .ok (.goto (-54), 3) := by decide +kernel
set_option maxRecDepth 20000 in
theorem dX2_eliminate_103 : decode cX2_eliminate 103 = .ok (.return_, 1) := by decide +kernel
set_option maxRecDepth 20000 in
theorem dX2_lowerShadow_0 : decode cX2_lowerShadow 0 = .ok (.aload_n 0, 1) := by decide +kernel
set_option maxRecDepth 20000 in
theorem dX2_lowerShadow_1 : decode cX2_lowerShadow 1 = .ok (.getfield 43, 3) := by decide +kernel
set_option maxRecDepth 20000 in
theorem dX2_lowerShadow_4 : decode cX2_lowerShadow 4 = .ok (.lstore_n 1, 1) := by decide +kernel
set_option maxRecDepth 20000 in
theorem dX2_lowerShadow_5 : decode cX2_lowerShadow 5 = .ok (.iconst 0, 1) := by decide +kernel
set_option maxRecDepth 20000 in
theorem dX2_lowerShadow_6 : decode cX2_lowerShadow 6 = .ok (.istore_n 3, 1) := by decide +kernel
set_option maxRecDepth 20000 in
theorem dX2_lowerShadow_7 : decode cX2_lowerShadow 7 = .ok (.iload_n 3, 1) := by decide +kernel
set_option maxRecDepth 20000 in
theorem dX2_lowerShadow_8 : decode cX2_lowerShadow 8 = .ok (.aload_n 0, 1) := by decide +kernel
set_option maxRecDepth 20000 in
theorem dX2_lowerShadow_9 : decode cX2_lowerShadow 9 = .ok (.getfield 19, 3) := by decide +kernel
set_option maxRecDepth 20000 in
theorem dX2_lowerShadow_12 : decode cX2_lowerShadow 12 = .ok (.if_icmp .ge 20, 3) := by decide +kernel
set_option maxRecDepth 20000 in
theorem dX2_lowerShadow_15 : decode cX2_lowerShadow 15 = .ok (.lload_n 1, 1) := by decide +kernel
set_option maxRecDepth 20000 in
theorem dX2_lowerShadow_16 : decode cX2_lowerShadow 16 = .ok (.aload_n 0, 1) := by decide +kernel
set_option maxRecDepth 20000 in
theorem dX2_lowerShadow_17 : decode cX2_lowerShadow 17 = .ok (.getfield 40, 3) := by decide +kernel
set_option maxRecDepth 20000 in
theorem dX2_lowerShadow_20 : decode cX2_lowerShadow 20 = .ok (.iload_n 3, 1) := by decide +kernel
set_option maxRecDepth 20000 in
theorem dX2_lowerShadow_21 : decode cX2_lowerShadow 21 = .ok (.laload, 1) := by decide +kernel
set_option maxRecDepth 20000 in
theorem dX2_lowerShadow_22 : decode cX2_lowerShadow 22 = .ok (.invokestatic 104, 3) := by decide +kernel
set_option maxRecDepth 20000 in
theorem dX2_lowerShadow_25 : decode cX2_lowerShadow 25 = .ok (.lstore_n 1, 1) := by decide +kernel
set_option maxRecDepth 20000 in
theorem dX2_lowerShadow_26 : decode cX2_lowerShadow 26 = .ok (.iinc 3 1, 3) := by decide +kernel
set_option maxRecDepth 20000 in
theorem dX2_lowerShadow_29 : decode cX2_lowerShadow 29 = .ok (.goto (-22), 3) := by decide +kernel
set_option maxRecDepth 20000 in
theorem dX2_lowerShadow_32 : decode cX2_lowerShadow 32 = .ok (.lload_n 1, 1) := by decide +kernel
set_option maxRecDepth 20000 in
theorem dX2_lowerShadow_33 : decode cX2_lowerShadow 33 = .ok (.lconst 0, 1) := by decide +kernel
set_option maxRecDepth 20000 in
theorem dX2_lowerShadow_34 : decode cX2_lowerShadow 34 = .ok (.lcmp, 1) := by decide +kernel
set_option maxRecDepth 20000 in
theorem dX2_lowerShadow_35 : decode cX2_lowerShadow 35 = .ok (.ifCond .ne 4, 3) := by decide +kernel
set_option maxRecDepth 20000 in
theorem dX2_lowerShadow_38 : decode cX2_lowerShadow 38 = .ok (.return_, 1) := by decide +kernel
set_option maxRecDepth 20000 in
theorem dX2_lowerShadow_39 : decode cX2_lowerShadow 39 = .ok (.iconst 0, 1) := by decide +kernel
set_option maxRecDepth 20000 in
theorem dX2_lowerShadow_40 : decode cX2_lowerShadow 40 = .ok (.istore_n 3, 1) := by decide +kernel
set_option maxRecDepth 20000 in
theorem dX2_lowerShadow_41 : decode cX2_lowerShadow 41 = .ok (.iload_n 3, 1) := by decide +kernel
set_option maxRecDepth 20000 in
theorem dX2_lowerShadow_42 : decode cX2_lowerShadow 42 = .ok (.aload_n 0, 1) := by decide +kernel
set_option maxRecDepth 20000 in
theorem dX2_lowerShadow_43 : decode cX2_lowerShadow 43 = .ok (.getfield 19, 3) := by decide +kernel
set_option maxRecDepth 20000 in
theorem dX2_lowerShadow_46 : decode cX2_lowerShadow 46 = .ok (.if_icmp .ge 19, 3) := by decide +kernel
set_option maxRecDepth 20000 in
theorem dX2_lowerShadow_49 : decode cX2_lowerShadow 49 = .ok (.aload_n 0, 1) := by decide +kernel
set_option maxRecDepth 20000 in
theorem dX2_lowerShadow_50 : decode cX2_lowerShadow 50 = .ok (.getfield 40, 3) := by decide +kernel
set_option maxRecDepth 20000 in
theorem dX2_lowerShadow_53 : decode cX2_lowerShadow 53 = .ok (.iload_n 3, 1) := by decide +kernel
set_option maxRecDepth 20000 in
theorem dX2_lowerShadow_54 : decode cX2_lowerShadow 54 = .ok (.dup2, 1) := by decide +kernel
set_option maxRecDepth 20000 in
theorem dX2_lowerShadow_55 : decode cX2_lowerShadow 55 = .ok (.laload, 1) := by decide +kernel
set_option maxRecDepth 20000 in
theorem dX2_lowerShadow_56 : decode cX2_lowerShadow 56 = .ok (.lload_n 1, 1) := by decide +kernel
set_option maxRecDepth 20000 in
theorem dX2_lowerShadow_57 : decode cX2_lowerShadow 57 = .ok (.ldiv, 1) := by decide +kernel
set_option maxRecDepth 20000 in
theorem dX2_lowerShadow_58 : decode cX2_lowerShadow 58 = .ok (.lastore, 1) := by decide +kernel
set_option maxRecDepth 20000 in
theorem dX2_lowerShadow_59 : decode cX2_lowerShadow 59 = .ok (.iinc 3 1, 3) := by decide +kernel
set_option maxRecDepth 20000 in
theorem dX2_lowerShadow_62 : decode cX2_lowerShadow 62 = .ok (.goto (-21), 3) := by decide +kernel
set_option maxRecDepth 20000 in
theorem dX2_lowerShadow_65 : decode cX2_lowerShadow 65 = .ok (.aload_n 0, 1) := by decide +kernel
set_option maxRecDepth 20000 in
theorem dX2_lowerShadow_66 : decode cX2_lowerShadow 66 = .ok (.dup, 1) := by decide +kernel
set_option maxRecDepth 20000 in
theorem dX2_lowerShadow_67 : decode cX2_lowerShadow 67 = .ok (.getfield 43, 3) := by decide +kernel
set_option maxRecDepth 20000 in
theorem dX2_lowerShadow_70 : decode cX2_lowerShadow 70 = .ok (.lload_n 1, 1) := by decide +kernel
set_option maxRecDepth 20000 in
theorem dX2_lowerShadow_71 : decode cX2_lowerShadow 71 = .ok (.ldiv, 1) := by decide +kernel
set_option maxRecDepth 20000 in
theorem dX2_lowerShadow_72 : decode cX2_lowerShadow 72 = .ok (.putfield 43, 3) := by decide +kernel
set_option maxRecDepth 20000 in
theorem dX2_lowerShadow_75 : decode cX2_lowerShadow 75 = .ok (.return_, 1) := by decide +kernel
set_option maxRecDepth 20000 in
theorem dX2_takeShadowAway_0 : decode cX2_takeShadowAway 0 = .ok (.iconst 0, 1) := by decide +kernel
set_option maxRecDepth 20000 in
theorem dX2_takeShadowAway_1 : decode cX2_takeShadowAway 1 = .ok (.istore_n 1, 1) := by decide +kernel
set_option maxRecDepth 20000 in
theorem dX2_takeShadowAway_2 : decode cX2_takeShadowAway 2 = .ok (.iload_n 1, 1) := by decide +kernel
set_option maxRecDepth 20000 in
theorem dX2_takeShadowAway_3 : decode cX2_takeShadowAway 3 = .ok (.aload_n 0, 1) := by decide +kernel
set_option maxRecDepth 20000 in
theorem dX2_takeShadowAway_4 : decode cX2_takeShadowAway 4 = .ok (.getfield 19, 3) := by decide +kernel
set_option maxRecDepth 20000 in
theorem dX2_takeShadowAway_7 : decode cX2_takeShadowAway 7 = .ok (.if_icmp .ge 38, 3) := by decide +kernel
set_option maxRecDepth 20000 in
theorem dX2_takeShadowAway_10 : decode cX2_takeShadowAway 10 = .ok (.aload_n 0, 1) := by decide +kernel
set_option maxRecDepth 20000 in
theorem dX2_takeShadowAway_11 : decode cX2_takeShadowAway 11 = .ok (.getfield 9, 3) := by decide +kernel
set_option maxRecDepth 20000 in
theorem dX2_takeShadowAway_14 : decode cX2_takeShadowAway 14 = .ok (.iload_n 1, 1) := by decide +kernel
set_option maxRecDepth 20000 in
theorem dX2_takeShadowAway_15 : decode cX2_takeShadowAway 15 = .ok (.aload_n 0, 1) := by decide +kernel
set_option maxRecDepth 20000 in
theorem dX2_takeShadowAway_16 : decode cX2_takeShadowAway 16 = .ok (.getfield 9, 3) := by decide +kernel
set_option maxRecDepth 20000 in
theorem dX2_takeShadowAway_19 : decode cX2_takeShadowAway 19 = .ok (.iload_n 1, 1) := by decide +kernel
set_option maxRecDepth 20000 in
theorem dX2_takeShadowAway_20 : decode cX2_takeShadowAway 20 = .ok (.laload, 1) := by decide +kernel
set_option maxRecDepth 20000 in
theorem dX2_takeShadowAway_21 : decode cX2_takeShadowAway 21 = .ok (.aload_n 0, 1) := by decide +kernel
set_option maxRecDepth 20000 in
theorem dX2_takeShadowAway_22 : decode cX2_takeShadowAway 22 = .ok (.getfield 43, 3) := by decide +kernel
set_option maxRecDepth 20000 in
theorem dX2_takeShadowAway_25 : decode cX2_takeShadowAway 25 = .ok (.lmul, 1) := by decide +kernel
set_option maxRecDepth 20000 in
theorem dX2_takeShadowAway_26 : decode cX2_takeShadowAway 26 = .ok (.aload_n 0, 1) := by decide +kernel
set_option maxRecDepth 20000 in
theorem dX2_takeShadowAway_27 : decode cX2_takeShadowAway 27 = .ok (.getfield 40, 3) := by decide +kernel
set_option maxRecDepth 20000 in
theorem dX2_takeShadowAway_30 : decode cX2_takeShadowAway 30 = .ok (.iload_n 1, 1) := by decide +kernel
set_option maxRecDepth 20000 in
theorem dX2_takeShadowAway_31 : decode cX2_takeShadowAway 31 = .ok (.laload, 1) := by decide +kernel
set_option maxRecDepth 20000 in
theorem dX2_takeShadowAway_32 : decode cX2_takeShadowAway 32 = .ok (.aload_n 0, 1) := by decide +kernel
set_option maxRecDepth 20000 in
theorem dX2_takeShadowAway_33 : decode cX2_takeShadowAway 33 = .ok (.getfield 15, 3) := by decide +kernel
set_option maxRecDepth 20000 in
theorem dX2_takeShadowAway_36 : decode cX2_takeShadowAway 36 = .ok (.lmul, 1) := by decide +kernel
set_option maxRecDepth 20000 in
theorem dX2_takeShadowAway_37 : decode cX2_takeShadowAway 37 = .ok (.lsub, 1) := by decide +kernel
set_option maxRecDepth 20000 in
theorem dX2_takeShadowAway_38 : decode cX2_takeShadowAway 38 = .ok (.lastore, 1) := by decide +kernel
set_option maxRecDepth 20000 in
theorem dX2_takeShadowAway_39 : decode cX2_takeShadowAway 39 = .ok (.iinc 1 1, 3) := by decide +kernel
set_option maxRecDepth 20000 in
theorem dX2_takeShadowAway_42 : decode cX2_takeShadowAway 42 = .ok (.goto (-40), 3) := by decide +kernel
set_option maxRecDepth 20000 in
theorem dX2_takeShadowAway_45 : decode cX2_takeShadowAway 45 = .ok (.aload_n 0, 1) := by decide +kernel
set_option maxRecDepth 20000 in
theorem dX2_takeShadowAway_46 : decode cX2_takeShadowAway 46 = .ok (.dup, 1) := by decide +kernel
set_option maxRecDepth 20000 in
theorem dX2_takeShadowAway_47 : decode cX2_takeShadowAway 47 = .ok (.getfield 15, 3) := by decide +kernel
set_option maxRecDepth 20000 in
theorem dX2_takeShadowAway_50 : decode cX2_takeShadowAway 50 = .ok (.aload_n 0, 1) := by decide +kernel
set_option maxRecDepth 20000 in
theorem dX2_takeShadowAway_51 : decode cX2_takeShadowAway 51 = .ok (.getfield 43, 3) := by decide +kernel
set_option maxRecDepth 20000 in
theorem dX2_takeShadowAway_54 : decode cX2_takeShadowAway 54 = .ok (.lmul, 1) := by decide +kernel
set_option maxRecDepth 20000 in
theorem dX2_takeShadowAway_55 : decode cX2_takeShadowAway 55 = .ok (.putfield 15, 3) := by decide +kernel
set_option maxRecDepth 20000 in
theorem dX2_takeShadowAway_58 : decode cX2_takeShadowAway 58 = .ok (.return_, 1) := by decide +kernel
set_option maxRecDepth 20000 in
theorem dX3_init_0 : decode cX3_init 0 = .ok (.aload_n 0, 1) := by decide +kernel
set_option maxRecDepth 20000 in
theorem dX3_init_1 : decode cX3_init 1 = .ok (.invokespecial 3, 3) := by decide +kernel
set_option maxRecDepth 20000 in
theorem dX3_init_4 : decode cX3_init 4 = .ok (.aload_n 0, 1) := by decide +kernel
set_option maxRecDepth 20000 in
theorem dX3_init_5 : decode cX3_init 5 = .ok (.bipush 90, 2) := by decide +kernel
set_option maxRecDepth 20000 in
theorem dX3_init_7 : decode cX3_init 7 = .ok (.newarray .int, 2) := by decide +kernel
set_option maxRecDepth 20000 in
theorem dX3_init_9 : decode cX3_init 9 = .ok (.putfield 9, 3) := by decide +kernel
set_option maxRecDepth 20000 in
theorem dX3_init_12 : decode cX3_init 12 = .ok (.aload_n 0, 1) := by decide +kernel
set_option maxRecDepth 20000 in
theorem dX3_init_13 : decode cX3_init 13 = .ok (.iconst 0, 1) := by decide +kernel
set_option maxRecDepth 20000 in
theorem dX3_init_14 : decode cX3_init 14 = .ok (.putfield 15, 3) := by decide +kernel
set_option maxRecDepth 20000 in
theorem dX3_init_17 : decode cX3_init 17 = .ok (.aload_n 0, 1) := by decide +kernel
set_option maxRecDepth 20000 in
theorem dX3_init_18 : decode cX3_init 18 = .ok (.iconst 0, 1) := by decide +kernel
set_option maxRecDepth 20000 in
theorem dX3_init_19 : decode cX3_init 19 = .ok (.putfield 19, 3) := by decide +kernel
set_option maxRecDepth 20000 in
theorem dX3_init_22 : decode cX3_init 22 = .ok (.aload_n 0, 1) := by decide +kernel
set_option maxRecDepth 20000 in
theorem dX3_init_23 : decode cX3_init 23 = .ok (.iconst 0, 1) := by decide +kernel
set_option maxRecDepth 20000 in
theorem dX3_init_24 : decode cX3_init 24 = .ok (.putfield 22, 3) := by decide +kernel
set_option maxRecDepth 20000 in
theorem dX3_init_27 : decode cX3_init 27 = .ok (.return_, 1) := by decide +kernel
set_option maxRecDepth 20000 in
theorem dX3_append_0 : decode cX3_append 0 = .ok (.aload_n 0, 1) := by decide +kernel
set_option maxRecDepth 20000 in
theorem dX3_append_1 : decode cX3_append 1 = .ok (.getfield 15, 3) := by decide +kernel
set_option maxRecDepth 20000 in
theorem dX3_append_4 : decode cX3_append 4 = .ok (.aload_n 0, 1) := by decide +kernel
set_option maxRecDepth 20000 in
theorem dX3_append_5 : decode cX3_append 5 = .ok (.getfield 9, 3) := by decide +kernel
set_option maxRecDepth 20000 in
theorem dX3_append_8 : decode cX3_append 8 = .ok (.arraylength, 1) := by decide +kernel
set_option maxRecDepth 20000 in
theorem dX3_append_9 : decode cX3_append 9 = .ok (.invokestatic 25, 3) := by decide +kernel
set_option maxRecDepth 20000 in
theorem dX3_append_12 : decode cX3_append 12 = .ok (.ifCond .ne 5, 3) := by decide +kernel
set_option maxRecDepth 20000 in
theorem dX3_append_15 : decode cX3_append 15 = .ok (.iconst 0, 1) := by decide +kernel
set_option maxRecDepth 20000 in
theorem dX3_append_16 : decode cX3_append 16 = .ok (.ireturn, 1) := by decide +kernel
set_option maxRecDepth 20000 in
theorem dX3_append_17 : decode cX3_append 17 = .ok (.aload_n 0, 1) := by decide +kernel
set_option maxRecDepth 20000 in
theorem dX3_append_18 : decode cX3_append 18 = .ok (.getfield 9, 3) := by decide +kernel
set_option maxRecDepth 20000 in
theorem dX3_append_21 : decode cX3_append 21 = .ok (.aload_n 0, 1) := by decide +kernel
set_option maxRecDepth 20000 in
theorem dX3_append_22 : decode cX3_append 22 = .ok (.getfield 15, 3) := by decide +kernel
set_option maxRecDepth 20000 in
theorem dX3_append_25 : decode cX3_append 25 = .ok (.iload_n 1, 1) := by decide +kernel
set_option maxRecDepth 20000 in
theorem dX3_append_26 : decode cX3_append 26 = .ok (.iastore, 1) := by decide +kernel
set_option maxRecDepth 20000 in
theorem dX3_append_27 : decode cX3_append 27 = .ok (.aload_n 0, 1) := by decide +kernel
set_option maxRecDepth 20000 in
theorem dX3_append_28 : decode cX3_append 28 = .ok (.dup, 1) := by decide +kernel
set_option maxRecDepth 20000 in
theorem dX3_append_29 : decode cX3_append 29 = .ok (.getfield 15, 3) := by decide +kernel
set_option maxRecDepth 20000 in
theorem dX3_append_32 : decode cX3_append 32 = .ok (.iconst 1, 1) := by decide +kernel
set_option maxRecDepth 20000 in
theorem dX3_append_33 : decode cX3_append 33 = .ok (.iadd, 1) := by decide +kernel
set_option maxRecDepth 20000 in
theorem dX3_append_34 : decode cX3_append 34 = .ok (.putfield 15, 3) := by decide +kernel
set_option maxRecDepth 20000 in
theorem dX3_append_37 : decode cX3_append 37 = .ok (.iconst 1, 1) := by decide +kernel
set_option maxRecDepth 20000 in
theorem dX3_append_38 : decode cX3_append 38 = .ok (.ireturn, 1) := by decide +kernel
set_option maxRecDepth 20000 in
theorem dX3_clear_0 : decode cX3_clear 0 = .ok (.aload_n 0, 1) := by decide +kernel
set_option maxRecDepth 20000 in
theorem dX3_clear_1 : decode cX3_clear 1 = .ok (.iconst 0, 1) := by decide +kernel
set_option maxRecDepth 20000 in
theorem dX3_clear_2 : decode cX3_clear 2 = .ok (.putfield 15, 3) := by decide +kernel
set_option maxRecDepth 20000 in
theorem dX3_clear_5 : decode cX3_clear 5 = .ok (.return_, 1) := by decide +kernel
set_option maxRecDepth 20000 in
theorem dX3_size_0 : decode cX3_size 0 = .ok (.aload_n 0, 1) := by decide +kernel
set_option maxRecDepth 20000 in
theorem dX3_size_1 : decode cX3_size 1 = .ok (.getfield 15, 3) := by decide +kernel
set_option maxRecDepth 20000 in
theorem dX3_size_4 : decode cX3_size 4 = .ok (.ireturn, 1) := by decide +kernel
set_option maxRecDepth 20000 in
theorem dX3_place_0 : decode cX3_place 0 = .ok (.aload_n 0, 1) := by decide +kernel
set_option maxRecDepth 20000 in
theorem dX3_place_1 : decode cX3_place 1 = .ok (.getfield 19, 3) := by decide +kernel
set_option maxRecDepth 20000 in
theorem dX3_place_4 : decode cX3_place 4 = .ok (.ireturn, 1) := by decide +kernel
set_option maxRecDepth 20000 in
theorem dX3_faultRead_0 : decode cX3_faultRead 0 = .ok (.aload_n 0, 1) := by decide +kernel
set_option maxRecDepth 20000 in
theorem dX3_faultRead_1 : decode cX3_faultRead 1 = .ok (.getfield 22, 3) := by decide +kernel
set_option maxRecDepth 20000 in
theorem dX3_faultRead_4 : decode cX3_faultRead 4 = .ok (.ireturn, 1) := by decide +kernel
set_option maxRecDepth 20000 in
theorem dX3_token_0 : decode cX3_token 0 = .ok (.iload_n 1, 1) := by decide +kernel
set_option maxRecDepth 20000 in
theorem dX3_token_1 : decode cX3_token 1 = .ok (.aload_n 0, 1) := by decide +kernel
set_option maxRecDepth 20000 in
theorem dX3_token_2 : decode cX3_token 2 = .ok (.getfield 15, 3) := by decide +kernel
set_option maxRecDepth 20000 in
theorem dX3_token_5 : decode cX3_token 5 = .ok (.if_icmp .ge 24, 3) := by decide +kernel
set_option maxRecDepth 20000 in
theorem dX3_token_8 : decode cX3_token 8 = .ok (.iload_n 1, 1) := by decide +kernel
set_option maxRecDepth 20000 in
theorem dX3_token_9 : decode cX3_token 9 = .ok (.aload_n 0, 1) := by decide +kernel
set_option maxRecDepth 20000 in
theorem dX3_token_10 : decode cX3_token 10 = .ok (.getfield 9, 3) := by decide +kernel
set_option maxRecDepth 20000 in
theorem dX3_token_13 : decode cX3_token 13 = .ok (.arraylength, 1) := by decide +kernel
set_option maxRecDepth 20000 in
theorem dX3_token_14 : decode cX3_token 14 = .ok (.invokestatic 25, 3) := by decide +kernel
set_option maxRecDepth 20000 in
theorem dX3_token_17 : decode cX3_token 17 = .ok (.ifCond .eq 12, 3) := by decide +kernel
set_option maxRecDepth 20000 in
theorem dX3_token_20 : decode cX3_token 20 = .ok (.aload_n 0, 1) := by decide +kernel
set_option maxRecDepth 20000 in
theorem dX3_token_21 : decode cX3_token 21 = .ok (.getfield 9, 3) := by decide +kernel
set_option maxRecDepth 20000 in
theorem dX3_token_24 : decode cX3_token 24 = .ok (.iload_n 1, 1) := by decide +kernel
set_option maxRecDepth 20000 in
theorem dX3_token_25 : decode cX3_token 25 = .ok (.iaload, 1) := by decide +kernel
set_option maxRecDepth 20000 in
theorem dX3_token_26 : decode cX3_token 26 = .ok (.goto 4, 3) := by decide +kernel
set_option maxRecDepth 20000 in
theorem dX3_token_29 : decode cX3_token 29 = .ok (.iconst (-1), 1) := by decide +kernel
set_option maxRecDepth 20000 in
theorem dX3_token_30 : decode cX3_token 30 = .ok (.ireturn, 1) := by decide +kernel
set_option maxRecDepth 20000 in
theorem dX3_readWord_0 : decode cX3_readWord 0 = .ok (.aload_n 2, 1) := by decide +kernel
set_option maxRecDepth 20000 in
theorem dX3_readWord_1 : decode cX3_readWord 1 = .ok (.invokevirtual 29, 3) := by decide +kernel
set_option maxRecDepth 20000 in
theorem dX3_readWord_4 : decode cX3_readWord 4 = .ok (.iconst 0, 1) := by decide +kernel
set_option maxRecDepth 20000 in
theorem dX3_readWord_5 : decode cX3_readWord 5 = .ok (.istore_n 3, 1) := by decide +kernel
set_option maxRecDepth 20000 in
theorem dX3_readWord_6 : decode cX3_readWord 6 = .ok (.iload_n 3, 1) := by decide +kernel
set_option maxRecDepth 20000 in
theorem dX3_readWord_7 : decode cX3_readWord 7 = .ok (.aload_n 0, 1) := by decide +kernel
set_option maxRecDepth 20000 in
theorem dX3_readWord_8 : decode cX3_readWord 8 = .ok (.getfield 15, 3) := by decide +kernel
set_option maxRecDepth 20000 in
theorem dX3_readWord_11 : decode cX3_readWord 11 = .ok (.if_icmp .ge 24, 3) := by decide +kernel
set_option maxRecDepth 20000 in
theorem dX3_readWord_14 : decode cX3_readWord 14 = .ok (.aload_n 2, 1) := by decide +kernel
set_option maxRecDepth 20000 in
theorem dX3_readWord_15 : decode cX3_readWord 15 = .ok (.aload_n 1, 1) := by decide +kernel
set_option maxRecDepth 20000 in
theorem dX3_readWord_16 : decode cX3_readWord 16 = .ok (.aload_n 0, 1) := by decide +kernel
set_option maxRecDepth 20000 in
theorem dX3_readWord_17 : decode cX3_readWord 17 = .ok (.iload_n 3, 1) := by decide +kernel
set_option maxRecDepth 20000 in
theorem dX3_readWord_18 : decode cX3_readWord 18 = .ok (.invokevirtual 34, 3) := by decide +kernel
set_option maxRecDepth 20000 in
theorem dX3_readWord_21 : decode cX3_readWord 21 = .ok (.invokevirtual 38, 3) := by decide +kernel
set_option maxRecDepth 20000 in
theorem dX3_readWord_24 : decode cX3_readWord 24 = .ok (.ifCond .ne 5, 3) := by decide +kernel
set_option maxRecDepth 20000 in
theorem dX3_readWord_27 : decode cX3_readWord 27 = .ok (.iconst 0, 1) := by decide +kernel
set_option maxRecDepth 20000 in
theorem dX3_readWord_28 : decode cX3_readWord 28 = .ok (.ireturn, 1) := by decide +kernel
set_option maxRecDepth 20000 in
theorem dX3_readWord_29 : decode cX3_readWord 29 = .ok (.iinc 3 1, 3) := by decide +kernel
set_option maxRecDepth 20000 in
theorem dX3_readWord_32 : decode cX3_readWord 32 = .ok (.goto (-26), 3) := by decide +kernel
set_option maxRecDepth 20000 in
theorem dX3_readWord_35 : decode cX3_readWord 35 = .ok (.aload_n 2, 1) := by decide +kernel
set_option maxRecDepth 20000 in
theorem dX3_readWord_36 : decode cX3_readWord 36 = .ok (.aload_n 1, 1) := by decide +kernel
set_option maxRecDepth 20000 in
theorem dX3_readWord_37 : decode cX3_readWord 37 = .ok (.invokevirtual 42, 3) := by decide +kernel
set_option maxRecDepth 20000 in
theorem dX3_readWord_40 : decode cX3_readWord 40 = .ok (.ireturn, 1) := by decide +kernel
set_option maxRecDepth 20000 in
theorem dX3_readComplex_0 : decode cX3_readComplex 0 = .ok (.aload_n 1, 1) := by decide +kernel
set_option maxRecDepth 20000 in
theorem dX3_readComplex_1 : decode cX3_readComplex 1 = .ok (.invokevirtual 46, 3) := by decide +kernel
set_option maxRecDepth 20000 in
theorem dX3_readComplex_4 : decode cX3_readComplex 4 = .ok (.aload_n 0, 1) := by decide +kernel
set_option maxRecDepth 20000 in
theorem dX3_readComplex_5 : decode cX3_readComplex 5 = .ok (.iconst 0, 1) := by decide +kernel
set_option maxRecDepth 20000 in
theorem dX3_readComplex_6 : decode cX3_readComplex 6 = .ok (.putfield 19, 3) := by decide +kernel
set_option maxRecDepth 20000 in
theorem dX3_readComplex_9 : decode cX3_readComplex 9 = .ok (.aload_n 0, 1) := by decide +kernel
set_option maxRecDepth 20000 in
theorem dX3_readComplex_10 : decode cX3_readComplex 10 = .ok (.iconst 0, 1) := by decide +kernel
set_option maxRecDepth 20000 in
theorem dX3_readComplex_11 : decode cX3_readComplex 11 = .ok (.putfield 22, 3) := by decide +kernel
set_option maxRecDepth 20000 in
theorem dX3_readComplex_14 : decode cX3_readComplex 14 = .ok (.aload_n 0, 1) := by decide +kernel
set_option maxRecDepth 20000 in
theorem dX3_readComplex_15 : decode cX3_readComplex 15 = .ok (.bipush 99, 2) := by decide +kernel
set_option maxRecDepth 20000 in
theorem dX3_readComplex_17 : decode cX3_readComplex 17 = .ok (.invokevirtual 49, 3) := by decide +kernel
set_option maxRecDepth 20000 in
theorem dX3_readComplex_20 : decode cX3_readComplex 20 = .ok (.aload_n 1, 1) := by decide +kernel
set_option maxRecDepth 20000 in
theorem dX3_readComplex_21 : decode cX3_readComplex 21 = .ok (.aload_n 0, 1) := by decide +kernel
set_option maxRecDepth 20000 in
theorem dX3_readComplex_22 : decode cX3_readComplex 22 = .ok (.iconst 1, 1) := by decide +kernel
set_option maxRecDepth 20000 in
theorem dX3_readComplex_23 : decode cX3_readComplex 23 = .ok (.iconst 5, 1) := by decide +kernel
set_option maxRecDepth 20000 in
theorem dX3_readComplex_24 : decode cX3_readComplex 24 = .ok (.invokevirtual 53, 3) := by decide +kernel
set_option maxRecDepth 20000 in
theorem dX3_readComplex_27 : decode cX3_readComplex 27 = .ok (.invokevirtual 57, 3) := by decide +kernel
set_option maxRecDepth 20000 in
theorem dX3_readComplex_30 : decode cX3_readComplex 30 = .ok (.aload_n 0, 1) := by decide +kernel
set_option maxRecDepth 20000 in
theorem dX3_readComplex_31 : decode cX3_readComplex 31 = .ok (.bipush 59, 2) := by decide +kernel
set_option maxRecDepth 20000 in
theorem dX3_readComplex_33 : decode cX3_readComplex 33 = .ok (.invokevirtual 49, 3) := by decide +kernel
set_option maxRecDepth 20000 in
theorem dX3_readComplex_36 : decode cX3_readComplex 36 = .ok (.iconst 0, 1) := by decide +kernel
set_option maxRecDepth 20000 in
theorem dX3_readComplex_37 : decode cX3_readComplex 37 = .ok (.istore_n 3, 1) := by decide +kernel
set_option maxRecDepth 20000 in
theorem dX3_readComplex_38 : decode cX3_readComplex 38 = .ok (.iload_n 3, 1) := by decide +kernel
set_option maxRecDepth 20000 in
theorem dX3_readComplex_39 : decode cX3_readComplex 39 = .ok (.bipush 90, 2) := by decide +kernel
set_option maxRecDepth 20000 in
theorem dX3_readComplex_41 : decode cX3_readComplex 41 = .ok (.if_icmp .ge 34, 3) := by decide +kernel
set_option maxRecDepth 20000 in
theorem dX3_readComplex_44 : decode cX3_readComplex 44 = .ok (.aload_n 0, 1) := by decide +kernel
set_option maxRecDepth 20000 in
theorem dX3_readComplex_45 : decode cX3_readComplex 45 = .ok (.getfield 22, 3) := by decide +kernel
set_option maxRecDepth 20000 in
theorem dX3_readComplex_48 : decode cX3_readComplex 48 = .ok (.ifCond .ne 27, 3) := by decide +kernel
set_option maxRecDepth 20000 in
theorem dX3_readComplex_51 : decode cX3_readComplex 51 = .ok (.aload_n 0, 1) := by decide +kernel
set_option maxRecDepth 20000 in
theorem dX3_readComplex_52 : decode cX3_readComplex 52 = .ok (.aload_n 0, 1) := by decide +kernel
set_option maxRecDepth 20000 in
theorem dX3_readComplex_53 : decode cX3_readComplex 53 = .ok (.getfield 19, 3) := by decide +kernel
set_option maxRecDepth 20000 in
theorem dX3_readComplex_56 : decode cX3_readComplex 56 = .ok (.invokevirtual 34, 3) := by decide +kernel
set_option maxRecDepth 20000 in
theorem dX3_readComplex_59 : decode cX3_readComplex 59 = .ok (.bipush 101, 2) := by decide +kernel
set_option maxRecDepth 20000 in
theorem dX3_readComplex_61 : decode cX3_readComplex 61 = .ok (.if_icmp .ne 14, 3) := by decide +kernel
set_option maxRecDepth 20000 in
theorem dX3_readComplex_64 : decode cX3_readComplex 64 = .ok (.aload_n 0, 1) := by decide +kernel
set_option maxRecDepth 20000 in
theorem dX3_readComplex_65 : decode cX3_readComplex 65 = .ok (.aload_n 1, 1) := by decide +kernel
set_option maxRecDepth 20000 in
theorem dX3_readComplex_66 : decode cX3_readComplex 66 = .ok (.invokevirtual 60, 3) := by decide +kernel
set_option maxRecDepth 20000 in
theorem dX3_readComplex_69 : decode cX3_readComplex 69 = .ok (.iinc 3 1, 3) := by decide +kernel
set_option maxRecDepth 20000 in
theorem dX3_readComplex_72 : decode cX3_readComplex 72 = .ok (.goto (-34), 3) := by decide +kernel
set_option maxRecDepth 20000 in
theorem dX3_readComplex_75 : decode cX3_readComplex 75 = .ok (.iconst 0, 1) := by decide +kernel
set_option maxRecDepth 20000 in
theorem dX3_readComplex_76 : decode cX3_readComplex 76 = .ok (.istore_n 3, 1) := by decide +kernel
set_option maxRecDepth 20000 in
theorem dX3_readComplex_77 : decode cX3_readComplex 77 = .ok (.iload_n 3, 1) := by decide +kernel
set_option maxRecDepth 20000 in
theorem dX3_readComplex_78 : decode cX3_readComplex 78 = .ok (.bipush 90, 2) := by decide +kernel
set_option maxRecDepth 20000 in
theorem dX3_readComplex_80 : decode cX3_readComplex 80 = .ok (.if_icmp .ge 35, 3) := by decide +kernel
set_option maxRecDepth 20000 in
theorem dX3_readComplex_83 : decode cX3_readComplex 83 = .ok (.aload_n 0, 1) := by decide +kernel
set_option maxRecDepth 20000 in
theorem dX3_readComplex_84 : decode cX3_readComplex 84 = .ok (.getfield 22, 3) := by decide +kernel
set_option maxRecDepth 20000 in
theorem dX3_readComplex_87 : decode cX3_readComplex 87 = .ok (.ifCond .ne 28, 3) := by decide +kernel
set_option maxRecDepth 20000 in
theorem dX3_readComplex_90 : decode cX3_readComplex 90 = .ok (.aload_n 0, 1) := by decide +kernel
set_option maxRecDepth 20000 in
theorem dX3_readComplex_91 : decode cX3_readComplex 91 = .ok (.aload_n 0, 1) := by decide +kernel
set_option maxRecDepth 20000 in
theorem dX3_readComplex_92 : decode cX3_readComplex 92 = .ok (.getfield 19, 3) := by decide +kernel
set_option maxRecDepth 20000 in
theorem dX3_readComplex_95 : decode cX3_readComplex 95 = .ok (.invokevirtual 34, 3) := by decide +kernel
set_option maxRecDepth 20000 in
theorem dX3_readComplex_98 : decode cX3_readComplex 98 = .ok (.bipush 102, 2) := by decide +kernel
set_option maxRecDepth 20000 in
theorem dX3_readComplex_100 : decode cX3_readComplex 100 = .ok (.if_icmp .ne 15, 3) := by decide +kernel
set_option maxRecDepth 20000 in
theorem dX3_readComplex_103 : decode cX3_readComplex 103 = .ok (.aload_n 0, 1) := by decide +kernel
set_option maxRecDepth 20000 in
theorem dX3_readComplex_104 : decode cX3_readComplex 104 = .ok (.aload_n 1, 1) := by decide +kernel
set_option maxRecDepth 20000 in
theorem dX3_readComplex_105 : decode cX3_readComplex 105 = .ok (.aload_n 2, 1) := by decide +kernel
set_option maxRecDepth 20000 in
theorem dX3_readComplex_106 : decode cX3_readComplex 106 = .ok (.invokevirtual 64, 3) := by decide +kernel
set_option maxRecDepth 20000 in
theorem dX3_readComplex_109 : decode cX3_readComplex 109 = .ok (.iinc 3 1, 3) := by decide +kernel
set_option maxRecDepth 20000 in
theorem dX3_readComplex_112 : decode cX3_readComplex 112 = .ok (.goto (-35), 3) := by decide +kernel
set_option maxRecDepth 20000 in
theorem dX3_readComplex_115 : decode cX3_readComplex 115 = .ok (.aload_n 0, 1) := by decide +kernel
set_option maxRecDepth 20000 in
theorem dX3_readComplex_116 : decode cX3_readComplex 116 = .ok (.getfield 22, 3) := by decide +kernel
set_option maxRecDepth 20000 in
theorem dX3_readComplex_119 : decode cX3_readComplex 119 = .ok (.ifCond .ne 19, 3) := by decide +kernel
set_option maxRecDepth 20000 in
theorem dX3_readComplex_122 : decode cX3_readComplex 122 = .ok (.aload_n 0, 1) := by decide +kernel
set_option maxRecDepth 20000 in
theorem dX3_readComplex_123 : decode cX3_readComplex 123 = .ok (.getfield 19, 3) := by decide +kernel
set_option maxRecDepth 20000 in
theorem dX3_readComplex_126 : decode cX3_readComplex 126 = .ok (.aload_n 0, 1) := by decide +kernel
set_option maxRecDepth 20000 in
theorem dX3_readComplex_127 : decode cX3_readComplex 127 = .ok (.getfield 15, 3) := by decide +kernel
set_option maxRecDepth 20000 in
theorem dX3_readComplex_130 : decode cX3_readComplex 130 = .ok (.if_icmp .ge 8, 3) := by decide +kernel
set_option maxRecDepth 20000 in
theorem dX3_readComplex_133 : decode cX3_readComplex 133 = .ok (.aload_n 0, 1) := by decide +kernel
set_option maxRecDepth 20000 in
theorem dX3_readComplex_134 : decode cX3_readComplex 134 = .ok (.iconst 1, 1) := by decide +kernel
set_option maxRecDepth 20000 in
theorem dX3_readComplex_135 : decode cX3_readComplex 135 = .ok (.putfield 22, 3) := by decide +kernel
set_option maxRecDepth 20000 in
theorem dX3_readComplex_138 : decode cX3_readComplex 138 = .ok (.aload_n 0, 1) := by decide +kernel
set_option maxRecDepth 20000 in
theorem dX3_readComplex_139 : decode cX3_readComplex 139 = .ok (.getfield 22, 3) := by decide +kernel
set_option maxRecDepth 20000 in
theorem dX3_readComplex_142 : decode cX3_readComplex 142 = .ok (.ifCond .ne 7, 3) := by decide +kernel
set_option maxRecDepth 20000 in
theorem dX3_readComplex_145 : decode cX3_readComplex 145 = .ok (.iconst 1, 1) := by decide +kernel
set_option maxRecDepth 20000 in
theorem dX3_readComplex_146 : decode cX3_readComplex 146 = .ok (.goto 4, 3) := by decide +kernel
set_option maxRecDepth 20000 in
theorem dX3_readComplex_149 : decode cX3_readComplex 149 = .ok (.iconst 0, 1) := by decide +kernel
set_option maxRecDepth 20000 in
theorem dX3_readComplex_150 : decode cX3_readComplex 150 = .ok (.ireturn, 1) := by decide +kernel
set_option maxRecDepth 20000 in
theorem dX3_readEdge_0 : decode cX3_readEdge 0 = .ok (.aload_n 1, 1) := by decide +kernel
set_option maxRecDepth 20000 in
theorem dX3_readEdge_1 : decode cX3_readEdge 1 = .ok (.iconst 1, 1) := by decide +kernel
set_option maxRecDepth 20000 in
theorem dX3_readEdge_2 : decode cX3_readEdge 2 = .ok (.invokevirtual 68, 3) := by decide +kernel
set_option maxRecDepth 20000 in
theorem dX3_readEdge_5 : decode cX3_readEdge 5 = .ok (.bipush 6, 2) := by decide +kernel
set_option maxRecDepth 20000 in
theorem dX3_readEdge_7 : decode cX3_readEdge 7 = .ok (.if_icmp .lt 9, 3) := by decide +kernel
set_option maxRecDepth 20000 in
theorem dX3_readEdge_10 : decode cX3_readEdge 10 = .ok (.aload_n 0, 1) := by decide +kernel
set_option maxRecDepth 20000 in
theorem dX3_readEdge_11 : decode cX3_readEdge 11 = .ok (.iconst 3, 1) := by decide +kernel
set_option maxRecDepth 20000 in
theorem dX3_readEdge_12 : decode cX3_readEdge 12 = .ok (.putfield 22, 3) := by decide +kernel
set_option maxRecDepth 20000 in
theorem dX3_readEdge_15 : decode cX3_readEdge 15 = .ok (.return_, 1) := by decide +kernel
set_option maxRecDepth 20000 in
theorem dX3_readEdge_16 : decode cX3_readEdge 16 = .ok (.aload_n 0, 1) := by decide +kernel
set_option maxRecDepth 20000 in
theorem dX3_readEdge_17 : decode cX3_readEdge 17 = .ok (.bipush 101, 2) := by decide +kernel
set_option maxRecDepth 20000 in
theorem dX3_readEdge_19 : decode cX3_readEdge 19 = .ok (.invokevirtual 49, 3) := by decide +kernel
set_option maxRecDepth 20000 in
theorem dX3_readEdge_22 : decode cX3_readEdge 22 = .ok (.aload_n 0, 1) := by decide +kernel
set_option maxRecDepth 20000 in
theorem dX3_readEdge_23 : decode cX3_readEdge 23 = .ok (.iconst 0, 1) := by decide +kernel
set_option maxRecDepth 20000 in
theorem dX3_readEdge_24 : decode cX3_readEdge 24 = .ok (.aload_n 1, 1) := by decide +kernel
set_option maxRecDepth 20000 in
theorem dX3_readEdge_25 : decode cX3_readEdge 25 = .ok (.iconst 0, 1) := by decide +kernel
set_option maxRecDepth 20000 in
theorem dX3_readEdge_26 : decode cX3_readEdge 26 = .ok (.invokevirtual 68, 3) := by decide +kernel
set_option maxRecDepth 20000 in
theorem dX3_readEdge_29 : decode cX3_readEdge 29 = .ok (.iconst 1, 1) := by decide +kernel
set_option maxRecDepth 20000 in
theorem dX3_readEdge_30 : decode cX3_readEdge 30 = .ok (.isub, 1) := by decide +kernel
set_option maxRecDepth 20000 in
theorem dX3_readEdge_31 : decode cX3_readEdge 31 = .ok (.invokevirtual 53, 3) := by decide +kernel
set_option maxRecDepth 20000 in
theorem dX3_readEdge_34 : decode cX3_readEdge 34 = .ok (.istore_n 2, 1) := by decide +kernel
set_option maxRecDepth 20000 in
theorem dX3_readEdge_35 : decode cX3_readEdge 35 = .ok (.aload_n 0, 1) := by decide +kernel
set_option maxRecDepth 20000 in
theorem dX3_readEdge_36 : decode cX3_readEdge 36 = .ok (.iconst 0, 1) := by decide +kernel
set_option maxRecDepth 20000 in
theorem dX3_readEdge_37 : decode cX3_readEdge 37 = .ok (.aload_n 1, 1) := by decide +kernel
set_option maxRecDepth 20000 in
theorem dX3_readEdge_38 : decode cX3_readEdge 38 = .ok (.iconst 0, 1) := by decide +kernel
set_option maxRecDepth 20000 in
theorem dX3_readEdge_39 : decode cX3_readEdge 39 = .ok (.invokevirtual 68, 3) := by decide +kernel
set_option maxRecDepth 20000 in
theorem dX3_readEdge_42 : decode cX3_readEdge 42 = .ok (.iconst 1, 1) := by decide +kernel
set_option maxRecDepth 20000 in
theorem dX3_readEdge_43 : decode cX3_readEdge 43 = .ok (.isub, 1) := by decide +kernel
set_option maxRecDepth 20000 in
theorem dX3_readEdge_44 : decode cX3_readEdge 44 = .ok (.invokevirtual 53, 3) := by decide +kernel
set_option maxRecDepth 20000 in
theorem dX3_readEdge_47 : decode cX3_readEdge 47 = .ok (.istore_n 3, 1) := by decide +kernel
set_option maxRecDepth 20000 in
theorem dX3_readEdge_48 : decode cX3_readEdge 48 = .ok (.aload_n 0, 1) := by decide +kernel
set_option maxRecDepth 20000 in
theorem dX3_readEdge_49 : decode cX3_readEdge 49 = .ok (.iconst 1, 1) := by decide +kernel
set_option maxRecDepth 20000 in
theorem dX3_readEdge_50 : decode cX3_readEdge 50 = .ok (.iconst 3, 1) := by decide +kernel
set_option maxRecDepth 20000 in
theorem dX3_readEdge_51 : decode cX3_readEdge 51 = .ok (.invokevirtual 53, 3) := by decide +kernel
set_option maxRecDepth 20000 in
theorem dX3_readEdge_54 : decode cX3_readEdge 54 = .ok (.istore 4, 2) := by decide +kernel
set_option maxRecDepth 20000 in
theorem dX3_readEdge_56 : decode cX3_readEdge 56 = .ok (.aload_n 0, 1) := by decide +kernel
set_option maxRecDepth 20000 in
theorem dX3_readEdge_57 : decode cX3_readEdge 57 = .ok (.bipush 59, 2) := by decide +kernel
set_option maxRecDepth 20000 in
theorem dX3_readEdge_59 : decode cX3_readEdge 59 = .ok (.invokevirtual 49, 3) := by decide +kernel
set_option maxRecDepth 20000 in
theorem dX3_readEdge_62 : decode cX3_readEdge 62 = .ok (.aload_n 0, 1) := by decide +kernel
set_option maxRecDepth 20000 in
theorem dX3_readEdge_63 : decode cX3_readEdge 63 = .ok (.getfield 22, 3) := by decide +kernel
set_option maxRecDepth 20000 in
theorem dX3_readEdge_66 : decode cX3_readEdge 66 = .ok (.ifCond .ne 11, 3) := by decide +kernel
set_option maxRecDepth 20000 in
theorem dX3_readEdge_69 : decode cX3_readEdge 69 = .ok (.aload_n 1, 1) := by decide +kernel
set_option maxRecDepth 20000 in
theorem dX3_readEdge_70 : decode cX3_readEdge 70 = .ok (.iload_n 2, 1) := by decide +kernel
set_option maxRecDepth 20000 in
theorem dX3_readEdge_71 : decode cX3_readEdge 71 = .ok (.iload_n 3, 1) := by decide +kernel
set_option maxRecDepth 20000 in
theorem dX3_readEdge_72 : decode cX3_readEdge 72 = .ok (.iload 4, 2) := by decide +kernel
set_option maxRecDepth 20000 in
theorem dX3_readEdge_74 : decode cX3_readEdge 74 = .ok (.invokevirtual 71, 3) := by decide +kernel
set_option maxRecDepth 20000 in
theorem dX3_readEdge_77 : decode cX3_readEdge 77 = .ok (.return_, 1) := by decide +kernel
set_option maxRecDepth 20000 in
theorem dX3_readFace_0 : decode cX3_readFace 0 = .ok (.aload_n 1, 1) := by decide +kernel
set_option maxRecDepth 20000 in
theorem dX3_readFace_1 : decode cX3_readFace 1 = .ok (.iconst 2, 1) := by decide +kernel
set_option maxRecDepth 20000 in
theorem dX3_readFace_2 : decode cX3_readFace 2 = .ok (.invokevirtual 68, 3) := by decide +kernel
set_option maxRecDepth 20000 in
theorem dX3_readFace_5 : decode cX3_readFace 5 = .ok (.iconst 4, 1) := by decide +kernel
set_option maxRecDepth 20000 in
theorem dX3_readFace_6 : decode cX3_readFace 6 = .ok (.if_icmp .lt 9, 3) := by decide +kernel
set_option maxRecDepth 20000 in
theorem dX3_readFace_9 : decode cX3_readFace 9 = .ok (.aload_n 0, 1) := by decide +kernel
set_option maxRecDepth 20000 in
theorem dX3_readFace_10 : decode cX3_readFace 10 = .ok (.iconst 3, 1) := by decide +kernel
set_option maxRecDepth 20000 in
theorem dX3_readFace_11 : decode cX3_readFace 11 = .ok (.putfield 22, 3) := by decide +kernel
set_option maxRecDepth 20000 in
theorem dX3_readFace_14 : decode cX3_readFace 14 = .ok (.return_, 1) := by decide +kernel
set_option maxRecDepth 20000 in
theorem dX3_readFace_15 : decode cX3_readFace 15 = .ok (.aload_n 0, 1) := by decide +kernel
set_option maxRecDepth 20000 in
theorem dX3_readFace_16 : decode cX3_readFace 16 = .ok (.bipush 102, 2) := by decide +kernel
set_option maxRecDepth 20000 in
theorem dX3_readFace_18 : decode cX3_readFace 18 = .ok (.invokevirtual 49, 3) := by decide +kernel
set_option maxRecDepth 20000 in
theorem dX3_readFace_21 : decode cX3_readFace 21 = .ok (.aload_n 0, 1) := by decide +kernel
set_option maxRecDepth 20000 in
theorem dX3_readFace_22 : decode cX3_readFace 22 = .ok (.iconst 1, 1) := by decide +kernel
set_option maxRecDepth 20000 in
theorem dX3_readFace_23 : decode cX3_readFace 23 = .ok (.iconst 3, 1) := by decide +kernel
set_option maxRecDepth 20000 in
theorem dX3_readFace_24 : decode cX3_readFace 24 = .ok (.invokevirtual 53, 3) := by decide +kernel
set_option maxRecDepth 20000 in
theorem dX3_readFace_27 : decode cX3_readFace 27 = .ok (.istore_n 3, 1) := by decide +kernel
set_option maxRecDepth 20000 in
theorem dX3_readFace_28 : decode cX3_readFace 28 = .ok (.aload_n 2, 1) := by decide +kernel
set_option maxRecDepth 20000 in
theorem dX3_readFace_29 : decode cX3_readFace 29 = .ok (.invokevirtual 29, 3) := by decide +kernel
set_option maxRecDepth 20000 in
theorem dX3_readFace_32 : decode cX3_readFace 32 = .ok (.iconst 0, 1) := by decide +kernel
set_option maxRecDepth 20000 in
theorem dX3_readFace_33 : decode cX3_readFace 33 = .ok (.istore 4, 2) := by decide +kernel
set_option maxRecDepth 20000 in
theorem dX3_readFace_35 : decode cX3_readFace 35 = .ok (.iload 4, 2) := by decide +kernel
set_option maxRecDepth 20000 in
theorem dX3_readFace_37 : decode cX3_readFace 37 = .ok (.bipush 90, 2) := by decide +kernel
set_option maxRecDepth 20000 in
theorem dX3_readFace_39 : decode cX3_readFace 39 = .ok (.if_icmp .ge 64, 3) := by decide +kernel
set_option maxRecDepth 20000 in
theorem dX3_readFace_42 : decode cX3_readFace 42 = .ok (.aload_n 0, 1) := by decide +kernel
set_option maxRecDepth 20000 in
theorem dX3_readFace_43 : decode cX3_readFace 43 = .ok (.getfield 22, 3) := by decide +kernel
set_option maxRecDepth 20000 in
theorem dX3_readFace_46 : decode cX3_readFace 46 = .ok (.ifCond .ne 57, 3) := by decide +kernel
set_option maxRecDepth 20000 in
theorem dX3_readFace_49 : decode cX3_readFace 49 = .ok (.aload_n 0, 1) := by decide +kernel
set_option maxRecDepth 20000 in
theorem dX3_readFace_50 : decode cX3_readFace 50 = .ok (.aload_n 0, 1) := by decide +kernel
set_option maxRecDepth 20000 in
theorem dX3_readFace_51 : decode cX3_readFace 51 = .ok (.getfield 19, 3) := by decide +kernel
set_option maxRecDepth 20000 in
theorem dX3_readFace_54 : decode cX3_readFace 54 = .ok (.invokevirtual 34, 3) := by decide +kernel
set_option maxRecDepth 20000 in
theorem dX3_readFace_57 : decode cX3_readFace 57 = .ok (.invokestatic 75, 3) := by decide +kernel
set_option maxRecDepth 20000 in
theorem dX3_readFace_60 : decode cX3_readFace 60 = .ok (.ifCond .lt 43, 3) := by decide +kernel
set_option maxRecDepth 20000 in
theorem dX3_readFace_63 : decode cX3_readFace 63 = .ok (.aload_n 2, 1) := by decide +kernel
set_option maxRecDepth 20000 in
theorem dX3_readFace_64 : decode cX3_readFace 64 = .ok (.aload_n 1, 1) := by decide +kernel
set_option maxRecDepth 20000 in
theorem dX3_readFace_65 : decode cX3_readFace 65 = .ok (.aload_n 0, 1) := by decide +kernel
set_option maxRecDepth 20000 in
theorem dX3_readFace_66 : decode cX3_readFace 66 = .ok (.aload_n 0, 1) := by decide +kernel
set_option maxRecDepth 20000 in
theorem dX3_readFace_67 : decode cX3_readFace 67 = .ok (.getfield 19, 3) := by decide +kernel
set_option maxRecDepth 20000 in
theorem dX3_readFace_70 : decode cX3_readFace 70 = .ok (.invokevirtual 34, 3) := by decide +kernel
set_option maxRecDepth 20000 in
theorem dX3_readFace_73 : decode cX3_readFace 73 = .ok (.invokevirtual 38, 3) := by decide +kernel
set_option maxRecDepth 20000 in
theorem dX3_readFace_76 : decode cX3_readFace 76 = .ok (.ifCond .eq 16, 3) := by decide +kernel
set_option maxRecDepth 20000 in
theorem dX3_readFace_79 : decode cX3_readFace 79 = .ok (.aload_n 0, 1) := by decide +kernel
set_option maxRecDepth 20000 in
theorem dX3_readFace_80 : decode cX3_readFace 80 = .ok (.dup, 1) := by decide +kernel
set_option maxRecDepth 20000 in
theorem dX3_readFace_81 : decode cX3_readFace 81 = .ok (.getfield 19, 3) := by decide +kernel
set_option maxRecDepth 20000 in
theorem dX3_readFace_84 : decode cX3_readFace 84 = .ok (.iconst 1, 1) := by decide +kernel
set_option maxRecDepth 20000 in
theorem dX3_readFace_85 : decode cX3_readFace 85 = .ok (.iadd, 1) := by decide +kernel
set_option maxRecDepth 20000 in
theorem dX3_readFace_86 : decode cX3_readFace 86 = .ok (.putfield 19, 3) := by decide +kernel
set_option maxRecDepth 20000 in
theorem dX3_readFace_89 : decode cX3_readFace 89 = .ok (.goto 8, 3) := by decide +kernel
set_option maxRecDepth 20000 in
theorem dX3_readFace_92 : decode cX3_readFace 92 = .ok (.aload_n 0, 1) := by decide +kernel
set_option maxRecDepth 20000 in
theorem dX3_readFace_93 : decode cX3_readFace 93 = .ok (.iconst 2, 1) := by decide +kernel
set_option maxRecDepth 20000 in
theorem dX3_readFace_94 : decode cX3_readFace 94 = .ok (.putfield 22, 3) := by decide +kernel
set_option maxRecDepth 20000 in
theorem dX3_readFace_97 : decode cX3_readFace 97 = .ok (.iinc 4 1, 3) := by decide +kernel
set_option maxRecDepth 20000 in
theorem dX3_readFace_100 : decode cX3_readFace 100 = .ok (.goto (-65), 3) := by decide +kernel
set_option maxRecDepth 20000 in
theorem dX3_readFace_103 : decode cX3_readFace 103 = .ok (.aload_n 0, 1) := by decide +kernel
set_option maxRecDepth 20000 in
theorem dX3_readFace_104 : decode cX3_readFace 104 = .ok (.getfield 22, 3) := by decide +kernel
set_option maxRecDepth 20000 in
theorem dX3_readFace_107 : decode cX3_readFace 107 = .ok (.ifCond .ne 36, 3) := by decide +kernel
set_option maxRecDepth 20000 in
theorem dX3_readFace_110 : decode cX3_readFace 110 = .ok (.aload_n 0, 1) := by decide +kernel
set_option maxRecDepth 20000 in
theorem dX3_readFace_111 : decode cX3_readFace 111 = .ok (.aload_n 0, 1) := by decide +kernel
set_option maxRecDepth 20000 in
theorem dX3_readFace_112 : decode cX3_readFace 112 = .ok (.getfield 19, 3) := by decide +kernel
set_option maxRecDepth 20000 in
theorem dX3_readFace_115 : decode cX3_readFace 115 = .ok (.invokevirtual 34, 3) := by decide +kernel
set_option maxRecDepth 20000 in
theorem dX3_readFace_118 : decode cX3_readFace 118 = .ok (.bipush 59, 2) := by decide +kernel
set_option maxRecDepth 20000 in
theorem dX3_readFace_120 : decode cX3_readFace 120 = .ok (.if_icmp .ne 23, 3) := by decide +kernel
set_option maxRecDepth 20000 in
theorem dX3_readFace_123 : decode cX3_readFace 123 = .ok (.aload_n 2, 1) := by decide +kernel
set_option maxRecDepth 20000 in
theorem dX3_readFace_124 : decode cX3_readFace 124 = .ok (.invokevirtual 78, 3) := by decide +kernel
set_option maxRecDepth 20000 in
theorem dX3_readFace_127 : decode cX3_readFace 127 = .ok (.ifCond .le 16, 3) := by decide +kernel
set_option maxRecDepth 20000 in
theorem dX3_readFace_130 : decode cX3_readFace 130 = .ok (.aload_n 2, 1) := by decide +kernel
set_option maxRecDepth 20000 in
theorem dX3_readFace_131 : decode cX3_readFace 131 = .ok (.aload_n 1, 1) := by decide +kernel
set_option maxRecDepth 20000 in
theorem dX3_readFace_132 : decode cX3_readFace 132 = .ok (.invokevirtual 42, 3) := by decide +kernel
set_option maxRecDepth 20000 in
theorem dX3_readFace_135 : decode cX3_readFace 135 = .ok (.ifCond .ne 8, 3) := by decide +kernel
set_option maxRecDepth 20000 in
theorem dX3_readFace_138 : decode cX3_readFace 138 = .ok (.aload_n 0, 1) := by decide +kernel
set_option maxRecDepth 20000 in
theorem dX3_readFace_139 : decode cX3_readFace 139 = .ok (.iconst 2, 1) := by decide +kernel
set_option maxRecDepth 20000 in
theorem dX3_readFace_140 : decode cX3_readFace 140 = .ok (.putfield 22, 3) := by decide +kernel
set_option maxRecDepth 20000 in
theorem dX3_readFace_143 : decode cX3_readFace 143 = .ok (.aload_n 0, 1) := by decide +kernel
set_option maxRecDepth 20000 in
theorem dX3_readFace_144 : decode cX3_readFace 144 = .ok (.getfield 22, 3) := by decide +kernel
set_option maxRecDepth 20000 in
theorem dX3_readFace_147 : decode cX3_readFace 147 = .ok (.ifCond .ne 15, 3) := by decide +kernel
set_option maxRecDepth 20000 in
theorem dX3_readFace_150 : decode cX3_readFace 150 = .ok (.aload_n 2, 1) := by decide +kernel
set_option maxRecDepth 20000 in
theorem dX3_readFace_151 : decode cX3_readFace 151 = .ok (.invokevirtual 78, 3) := by decide +kernel
set_option maxRecDepth 20000 in
theorem dX3_readFace_154 : decode cX3_readFace 154 = .ok (.ifCond .ne 8, 3) := by decide +kernel
set_option maxRecDepth 20000 in
theorem dX3_readFace_157 : decode cX3_readFace 157 = .ok (.aload_n 0, 1) := by decide +kernel
set_option maxRecDepth 20000 in
theorem dX3_readFace_158 : decode cX3_readFace 158 = .ok (.iconst 1, 1) := by decide +kernel
set_option maxRecDepth 20000 in
theorem dX3_readFace_159 : decode cX3_readFace 159 = .ok (.putfield 22, 3) := by decide +kernel
set_option maxRecDepth 20000 in
theorem dX3_readFace_162 : decode cX3_readFace 162 = .ok (.aload_n 0, 1) := by decide +kernel
set_option maxRecDepth 20000 in
theorem dX3_readFace_163 : decode cX3_readFace 163 = .ok (.bipush 59, 2) := by decide +kernel
set_option maxRecDepth 20000 in
theorem dX3_readFace_165 : decode cX3_readFace 165 = .ok (.invokevirtual 49, 3) := by decide +kernel
set_option maxRecDepth 20000 in
theorem dX3_readFace_168 : decode cX3_readFace 168 = .ok (.aload_n 0, 1) := by decide +kernel
set_option maxRecDepth 20000 in
theorem dX3_readFace_169 : decode cX3_readFace 169 = .ok (.getfield 22, 3) := by decide +kernel
set_option maxRecDepth 20000 in
theorem dX3_readFace_172 : decode cX3_readFace 172 = .ok (.ifCond .ne 9, 3) := by decide +kernel
set_option maxRecDepth 20000 in
theorem dX3_readFace_175 : decode cX3_readFace 175 = .ok (.aload_n 1, 1) := by decide +kernel
set_option maxRecDepth 20000 in
theorem dX3_readFace_176 : decode cX3_readFace 176 = .ok (.aload_n 2, 1) := by decide +kernel
set_option maxRecDepth 20000 in
theorem dX3_readFace_177 : decode cX3_readFace 177 = .ok (.iload_n 3, 1) := by decide +kernel
set_option maxRecDepth 20000 in
theorem dX3_readFace_178 : decode cX3_readFace 178 = .ok (.invokevirtual 81, 3) := by decide +kernel
set_option maxRecDepth 20000 in
theorem dX3_readFace_181 : decode cX3_readFace 181 = .ok (.return_, 1) := by decide +kernel
set_option maxRecDepth 20000 in
theorem dX3_takeSign_0 : decode cX3_takeSign 0 = .ok (.aload_n 0, 1) := by decide +kernel
set_option maxRecDepth 20000 in
theorem dX3_takeSign_1 : decode cX3_takeSign 1 = .ok (.getfield 22, 3) := by decide +kernel
set_option maxRecDepth 20000 in
theorem dX3_takeSign_4 : decode cX3_takeSign 4 = .ok (.ifCond .eq 4, 3) := by decide +kernel
set_option maxRecDepth 20000 in
theorem dX3_takeSign_7 : decode cX3_takeSign 7 = .ok (.return_, 1) := by decide +kernel
set_option maxRecDepth 20000 in
theorem dX3_takeSign_8 : decode cX3_takeSign 8 = .ok (.aload_n 0, 1) := by decide +kernel
set_option maxRecDepth 20000 in
theorem dX3_takeSign_9 : decode cX3_takeSign 9 = .ok (.aload_n 0, 1) := by decide +kernel
set_option maxRecDepth 20000 in
theorem dX3_takeSign_10 : decode cX3_takeSign 10 = .ok (.getfield 19, 3) := by decide +kernel
set_option maxRecDepth 20000 in
theorem dX3_takeSign_13 : decode cX3_takeSign 13 = .ok (.invokevirtual 34, 3) := by decide +kernel
set_option maxRecDepth 20000 in
theorem dX3_takeSign_16 : decode cX3_takeSign 16 = .ok (.iload_n 1, 1) := by decide +kernel
set_option maxRecDepth 20000 in
theorem dX3_takeSign_17 : decode cX3_takeSign 17 = .ok (.if_icmp .ne 16, 3) := by decide +kernel
set_option maxRecDepth 20000 in
theorem dX3_takeSign_20 : decode cX3_takeSign 20 = .ok (.aload_n 0, 1) := by decide +kernel
set_option maxRecDepth 20000 in
theorem dX3_takeSign_21 : decode cX3_takeSign 21 = .ok (.dup, 1) := by decide +kernel
set_option maxRecDepth 20000 in
theorem dX3_takeSign_22 : decode cX3_takeSign 22 = .ok (.getfield 19, 3) := by decide +kernel
set_option maxRecDepth 20000 in
theorem dX3_takeSign_25 : decode cX3_takeSign 25 = .ok (.iconst 1, 1) := by decide +kernel
set_option maxRecDepth 20000 in
theorem dX3_takeSign_26 : decode cX3_takeSign 26 = .ok (.iadd, 1) := by decide +kernel
set_option maxRecDepth 20000 in
theorem dX3_takeSign_27 : decode cX3_takeSign 27 = .ok (.putfield 19, 3) := by decide +kernel
set_option maxRecDepth 20000 in
theorem dX3_takeSign_30 : decode cX3_takeSign 30 = .ok (.goto 8, 3) := by decide +kernel
set_option maxRecDepth 20000 in
theorem dX3_takeSign_33 : decode cX3_takeSign 33 = .ok (.aload_n 0, 1) := by decide +kernel
set_option maxRecDepth 20000 in
theorem dX3_takeSign_34 : decode cX3_takeSign 34 = .ok (.iconst 1, 1) := by decide +kernel
set_option maxRecDepth 20000 in
theorem dX3_takeSign_35 : decode cX3_takeSign 35 = .ok (.putfield 22, 3) := by decide +kernel
set_option maxRecDepth 20000 in
theorem dX3_takeSign_38 : decode cX3_takeSign 38 = .ok (.return_, 1) := by decide +kernel
set_option maxRecDepth 20000 in
theorem dX3_takeDigit_0 : decode cX3_takeDigit 0 = .ok (.aload_n 0, 1) := by decide +kernel
set_option maxRecDepth 20000 in
theorem dX3_takeDigit_1 : decode cX3_takeDigit 1 = .ok (.getfield 22, 3) := by decide +kernel
set_option maxRecDepth 20000 in
theorem dX3_takeDigit_4 : decode cX3_takeDigit 4 = .ok (.ifCond .eq 5, 3) := by decide +kernel
set_option maxRecDepth 20000 in
theorem dX3_takeDigit_7 : decode cX3_takeDigit 7 = .ok (.iconst 0, 1) := by decide +kernel
set_option maxRecDepth 20000 in
theorem dX3_takeDigit_8 : decode cX3_takeDigit 8 = .ok (.ireturn, 1) := by decide +kernel
set_option maxRecDepth 20000 in
theorem dX3_takeDigit_9 : decode cX3_takeDigit 9 = .ok (.aload_n 0, 1) := by decide +kernel
set_option maxRecDepth 20000 in
theorem dX3_takeDigit_10 : decode cX3_takeDigit 10 = .ok (.aload_n 0, 1) := by decide +kernel
set_option maxRecDepth 20000 in
theorem dX3_takeDigit_11 : decode cX3_takeDigit 11 = .ok (.getfield 19, 3) := by decide +kernel
set_option maxRecDepth 20000 in
theorem dX3_takeDigit_14 : decode cX3_takeDigit 14 = .ok (.invokevirtual 34, 3) := by decide +kernel
set_option maxRecDepth 20000 in
theorem dX3_takeDigit_17 : decode cX3_takeDigit 17 = .ok (.bipush 48, 2) := by decide +kernel
set_option maxRecDepth 20000 in
theorem dX3_takeDigit_19 : decode cX3_takeDigit 19 = .ok (.isub, 1) := by decide +kernel
set_option maxRecDepth 20000 in
theorem dX3_takeDigit_20 : decode cX3_takeDigit 20 = .ok (.istore_n 3, 1) := by decide +kernel
set_option maxRecDepth 20000 in
theorem dX3_takeDigit_21 : decode cX3_takeDigit 21 = .ok (.iload_n 3, 1) := by decide +kernel
set_option maxRecDepth 20000 in
theorem dX3_takeDigit_22 : decode cX3_takeDigit 22 = .ok (.bipush 10, 2) := by decide +kernel
set_option maxRecDepth 20000 in
theorem dX3_takeDigit_24 : decode cX3_takeDigit 24 = .ok (.invokestatic 25, 3) := by decide +kernel
set_option maxRecDepth 20000 in
theorem dX3_takeDigit_27 : decode cX3_takeDigit 27 = .ok (.ifCond .ne 10, 3) := by decide +kernel
set_option maxRecDepth 20000 in
theorem dX3_takeDigit_30 : decode cX3_takeDigit 30 = .ok (.aload_n 0, 1) := by decide +kernel
set_option maxRecDepth 20000 in
theorem dX3_takeDigit_31 : decode cX3_takeDigit 31 = .ok (.iconst 1, 1) := by decide +kernel
set_option maxRecDepth 20000 in
theorem dX3_takeDigit_32 : decode cX3_takeDigit 32 = .ok (.putfield 22, 3) := by decide +kernel
set_option maxRecDepth 20000 in
theorem dX3_takeDigit_35 : decode cX3_takeDigit 35 = .ok (.iconst 0, 1) := by decide +kernel
set_option maxRecDepth 20000 in
theorem dX3_takeDigit_36 : decode cX3_takeDigit 36 = .ok (.ireturn, 1) := by decide +kernel
set_option maxRecDepth 20000 in
theorem dX3_takeDigit_37 : decode cX3_takeDigit 37 = .ok (.iload_n 3, 1) := by decide +kernel
set_option maxRecDepth 20000 in
theorem dX3_takeDigit_38 : decode cX3_takeDigit 38 = .ok (.iload_n 1, 1) := by decide +kernel
set_option maxRecDepth 20000 in
theorem dX3_takeDigit_39 : decode cX3_takeDigit 39 = .ok (.if_icmp .lt 8, 3) := by decide +kernel
set_option maxRecDepth 20000 in
theorem dX3_takeDigit_42 : decode cX3_takeDigit 42 = .ok (.iload_n 3, 1) := by decide +kernel
set_option maxRecDepth 20000 in
theorem dX3_takeDigit_43 : decode cX3_takeDigit 43 = .ok (.iload_n 2, 1) := by decide +kernel
set_option maxRecDepth 20000 in
theorem dX3_takeDigit_44 : decode cX3_takeDigit 44 = .ok (.if_icmp .le 10, 3) := by decide +kernel
set_option maxRecDepth 20000 in
theorem dX3_takeDigit_47 : decode cX3_takeDigit 47 = .ok (.aload_n 0, 1) := by decide +kernel
set_option maxRecDepth 20000 in
theorem dX3_takeDigit_48 : decode cX3_takeDigit 48 = .ok (.iconst 2, 1) := by decide +kernel
set_option maxRecDepth 20000 in
theorem dX3_takeDigit_49 : decode cX3_takeDigit 49 = .ok (.putfield 22, 3) := by decide +kernel
set_option maxRecDepth 20000 in
theorem dX3_takeDigit_52 : decode cX3_takeDigit 52 = .ok (.iconst 0, 1) := by decide +kernel
set_option maxRecDepth 20000 in
theorem dX3_takeDigit_53 : decode cX3_takeDigit 53 = .ok (.ireturn, 1) := by decide +kernel
set_option maxRecDepth 20000 in
theorem dX3_takeDigit_54 : decode cX3_takeDigit 54 = .ok (.aload_n 0, 1) := by decide +kernel
set_option maxRecDepth 20000 in
theorem dX3_takeDigit_55 : decode cX3_takeDigit 55 = .ok (.dup, 1) := by decide +kernel
set_option maxRecDepth 20000 in
theorem dX3_takeDigit_56 : decode cX3_takeDigit 56 = .ok (.getfield 19, 3) := by decide +kernel
set_option maxRecDepth 20000 in
theorem dX3_takeDigit_59 : decode cX3_takeDigit 59 = .ok (.iconst 1, 1) := by decide +kernel
set_option maxRecDepth 20000 in
theorem dX3_takeDigit_60 : decode cX3_takeDigit 60 = .ok (.iadd, 1) := by decide +kernel
set_option maxRecDepth 20000 in
theorem dX3_takeDigit_61 : decode cX3_takeDigit 61 = .ok (.putfield 19, 3) := by decide +kernel
set_option maxRecDepth 20000 in
theorem dX3_takeDigit_64 : decode cX3_takeDigit 64 = .ok (.iload_n 3, 1) := by decide +kernel
set_option maxRecDepth 20000 in
theorem dX3_takeDigit_65 : decode cX3_takeDigit 65 = .ok (.ireturn, 1) := by decide +kernel
set_option maxRecDepth 20000 in
theorem dX4_init_0 : decode cX4_init 0 = .ok (.aload_n 0, 1) := by decide +kernel
set_option maxRecDepth 20000 in
theorem dX4_init_1 : decode cX4_init 1 = .ok (.invokespecial 3, 3) := by decide +kernel
set_option maxRecDepth 20000 in
theorem dX4_init_4 : decode cX4_init 4 = .ok (.aload_n 0, 1) := by decide +kernel
set_option maxRecDepth 20000 in
theorem dX4_init_5 : decode cX4_init 5 = .ok (.iconst 4, 1) := by decide +kernel
set_option maxRecDepth 20000 in
theorem dX4_init_6 : decode cX4_init 6 = .ok (.newarray .int, 2) := by decide +kernel
set_option maxRecDepth 20000 in
theorem dX4_init_8 : decode cX4_init 8 = .ok (.putfield 9, 3) := by decide +kernel
set_option maxRecDepth 20000 in
theorem dX4_init_11 : decode cX4_init 11 = .ok (.aload_n 0, 1) := by decide +kernel
set_option maxRecDepth 20000 in
theorem dX4_init_12 : decode cX4_init 12 = .ok (.iconst 0, 1) := by decide +kernel
set_option maxRecDepth 20000 in
theorem dX4_init_13 : decode cX4_init 13 = .ok (.putfield 15, 3) := by decide +kernel
set_option maxRecDepth 20000 in
theorem dX4_init_16 : decode cX4_init 16 = .ok (.return_, 1) := by decide +kernel
set_option maxRecDepth 20000 in
theorem dX4_isBackward_0 : decode cX4_isBackward 0 = .ok (.iload_n 0, 1) := by decide +kernel
set_option maxRecDepth 20000 in
theorem dX4_isBackward_1 : decode cX4_isBackward 1 = .ok (.bipush 65, 2) := by decide +kernel
set_option maxRecDepth 20000 in
theorem dX4_isBackward_3 : decode cX4_isBackward 3 = .ok (.if_icmp .lt 13, 3) := by decide +kernel
set_option maxRecDepth 20000 in
theorem dX4_isBackward_6 : decode cX4_isBackward 6 = .ok (.iload_n 0, 1) := by decide +kernel
set_option maxRecDepth 20000 in
theorem dX4_isBackward_7 : decode cX4_isBackward 7 = .ok (.bipush 90, 2) := by decide +kernel
set_option maxRecDepth 20000 in
theorem dX4_isBackward_9 : decode cX4_isBackward 9 = .ok (.if_icmp .gt 7, 3) := by decide +kernel
set_option maxRecDepth 20000 in
theorem dX4_isBackward_12 : decode cX4_isBackward 12 = .ok (.iconst 1, 1) := by decide +kernel
set_option maxRecDepth 20000 in
theorem dX4_isBackward_13 : decode cX4_isBackward 13 = .ok (.goto 4, 3) := by decide +kernel
set_option maxRecDepth 20000 in
theorem dX4_isBackward_16 : decode cX4_isBackward 16 = .ok (.iconst 0, 1) := by decide +kernel
set_option maxRecDepth 20000 in
theorem dX4_isBackward_17 : decode cX4_isBackward 17 = .ok (.ireturn, 1) := by decide +kernel
set_option maxRecDepth 20000 in
theorem dX4_edgeOf_0 : decode cX4_edgeOf 0 = .ok (.iload_n 0, 1) := by decide +kernel
set_option maxRecDepth 20000 in
theorem dX4_edgeOf_1 : decode cX4_edgeOf 1 = .ok (.bipush 65, 2) := by decide +kernel
set_option maxRecDepth 20000 in
theorem dX4_edgeOf_3 : decode cX4_edgeOf 3 = .ok (.if_icmp .lt 14, 3) := by decide +kernel
set_option maxRecDepth 20000 in
theorem dX4_edgeOf_6 : decode cX4_edgeOf 6 = .ok (.iload_n 0, 1) := by decide +kernel
set_option maxRecDepth 20000 in
theorem dX4_edgeOf_7 : decode cX4_edgeOf 7 = .ok (.bipush 90, 2) := by decide +kernel
set_option maxRecDepth 20000 in
theorem dX4_edgeOf_9 : decode cX4_edgeOf 9 = .ok (.if_icmp .gt 8, 3) := by decide +kernel
set_option maxRecDepth 20000 in
theorem dX4_edgeOf_12 : decode cX4_edgeOf 12 = .ok (.iload_n 0, 1) := by decide +kernel
set_option maxRecDepth 20000 in
theorem dX4_edgeOf_13 : decode cX4_edgeOf 13 = .ok (.bipush 65, 2) := by decide +kernel
set_option maxRecDepth 20000 in
theorem dX4_edgeOf_15 : decode cX4_edgeOf 15 = .ok (.isub, 1) := by decide +kernel
set_option maxRecDepth 20000 in
theorem dX4_edgeOf_16 : decode cX4_edgeOf 16 = .ok (.ireturn, 1) := by decide +kernel
set_option maxRecDepth 20000 in
theorem dX4_edgeOf_17 : decode cX4_edgeOf 17 = .ok (.iload_n 0, 1) := by decide +kernel
set_option maxRecDepth 20000 in
theorem dX4_edgeOf_18 : decode cX4_edgeOf 18 = .ok (.bipush 97, 2) := by decide +kernel
set_option maxRecDepth 20000 in
theorem dX4_edgeOf_20 : decode cX4_edgeOf 20 = .ok (.if_icmp .lt 16, 3) := by decide +kernel
set_option maxRecDepth 20000 in
theorem dX4_edgeOf_23 : decode cX4_edgeOf 23 = .ok (.iload_n 0, 1) := by decide +kernel
set_option maxRecDepth 20000 in
theorem dX4_edgeOf_24 : decode cX4_edgeOf 24 = .ok (.bipush 122, 2) := by decide +kernel
set_option maxRecDepth 20000 in
theorem dX4_edgeOf_26 : decode cX4_edgeOf 26 = .ok (.if_icmp .gt 10, 3) := by decide +kernel
set_option maxRecDepth 20000 in
theorem dX4_edgeOf_29 : decode cX4_edgeOf 29 = .ok (.iload_n 0, 1) := by decide +kernel
set_option maxRecDepth 20000 in
theorem dX4_edgeOf_30 : decode cX4_edgeOf 30 = .ok (.bipush 97, 2) := by decide +kernel
set_option maxRecDepth 20000 in
theorem dX4_edgeOf_32 : decode cX4_edgeOf 32 = .ok (.isub, 1) := by decide +kernel
set_option maxRecDepth 20000 in
theorem dX4_edgeOf_33 : decode cX4_edgeOf 33 = .ok (.goto 4, 3) := by decide +kernel
set_option maxRecDepth 20000 in
theorem dX4_edgeOf_36 : decode cX4_edgeOf 36 = .ok (.iconst (-1), 1) := by decide +kernel
set_option maxRecDepth 20000 in
theorem dX4_edgeOf_37 : decode cX4_edgeOf 37 = .ok (.ireturn, 1) := by decide +kernel
set_option maxRecDepth 20000 in
theorem dX4_clear_0 : decode cX4_clear 0 = .ok (.aload_n 0, 1) := by decide +kernel
set_option maxRecDepth 20000 in
theorem dX4_clear_1 : decode cX4_clear 1 = .ok (.iconst 0, 1) := by decide +kernel
set_option maxRecDepth 20000 in
theorem dX4_clear_2 : decode cX4_clear 2 = .ok (.putfield 15, 3) := by decide +kernel
set_option maxRecDepth 20000 in
theorem dX4_clear_5 : decode cX4_clear 5 = .ok (.return_, 1) := by decide +kernel
set_option maxRecDepth 20000 in
theorem dX4_size_0 : decode cX4_size 0 = .ok (.aload_n 0, 1) := by decide +kernel
set_option maxRecDepth 20000 in
theorem dX4_size_1 : decode cX4_size 1 = .ok (.getfield 15, 3) := by decide +kernel
set_option maxRecDepth 20000 in
theorem dX4_size_4 : decode cX4_size 4 = .ok (.ireturn, 1) := by decide +kernel
set_option maxRecDepth 20000 in
theorem dX4_letterAt_0 : decode cX4_letterAt 0 = .ok (.iload_n 1, 1) := by decide +kernel
set_option maxRecDepth 20000 in
theorem dX4_letterAt_1 : decode cX4_letterAt 1 = .ok (.aload_n 0, 1) := by decide +kernel
set_option maxRecDepth 20000 in
theorem dX4_letterAt_2 : decode cX4_letterAt 2 = .ok (.getfield 15, 3) := by decide +kernel
set_option maxRecDepth 20000 in
theorem dX4_letterAt_5 : decode cX4_letterAt 5 = .ok (.if_icmp .ge 24, 3) := by decide +kernel
set_option maxRecDepth 20000 in
theorem dX4_letterAt_8 : decode cX4_letterAt 8 = .ok (.iload_n 1, 1) := by decide +kernel
set_option maxRecDepth 20000 in
theorem dX4_letterAt_9 : decode cX4_letterAt 9 = .ok (.aload_n 0, 1) := by decide +kernel
set_option maxRecDepth 20000 in
theorem dX4_letterAt_10 : decode cX4_letterAt 10 = .ok (.getfield 9, 3) := by decide +kernel
set_option maxRecDepth 20000 in
theorem dX4_letterAt_13 : decode cX4_letterAt 13 = .ok (.arraylength, 1) := by decide +kernel
set_option maxRecDepth 20000 in
theorem dX4_letterAt_14 : decode cX4_letterAt 14 = .ok (.invokestatic 19, 3) := by decide +kernel
set_option maxRecDepth 20000 in
theorem dX4_letterAt_17 : decode cX4_letterAt 17 = .ok (.ifCond .eq 12, 3) := by decide +kernel
set_option maxRecDepth 20000 in
theorem dX4_letterAt_20 : decode cX4_letterAt 20 = .ok (.aload_n 0, 1) := by decide +kernel
set_option maxRecDepth 20000 in
theorem dX4_letterAt_21 : decode cX4_letterAt 21 = .ok (.getfield 9, 3) := by decide +kernel
set_option maxRecDepth 20000 in
theorem dX4_letterAt_24 : decode cX4_letterAt 24 = .ok (.iload_n 1, 1) := by decide +kernel
set_option maxRecDepth 20000 in
theorem dX4_letterAt_25 : decode cX4_letterAt 25 = .ok (.iaload, 1) := by decide +kernel
set_option maxRecDepth 20000 in
theorem dX4_letterAt_26 : decode cX4_letterAt 26 = .ok (.goto 4, 3) := by decide +kernel
set_option maxRecDepth 20000 in
theorem dX4_letterAt_29 : decode cX4_letterAt 29 = .ok (.iconst 0, 1) := by decide +kernel
set_option maxRecDepth 20000 in
theorem dX4_letterAt_30 : decode cX4_letterAt 30 = .ok (.ireturn, 1) := by decide +kernel
set_option maxRecDepth 20000 in
theorem dX4_append_0 : decode cX4_append 0 = .ok (.aload_n 0, 1) := by decide +kernel
set_option maxRecDepth 20000 in
theorem dX4_append_1 : decode cX4_append 1 = .ok (.getfield 15, 3) := by decide +kernel
set_option maxRecDepth 20000 in
theorem dX4_append_4 : decode cX4_append 4 = .ok (.aload_n 0, 1) := by decide +kernel
set_option maxRecDepth 20000 in
theorem dX4_append_5 : decode cX4_append 5 = .ok (.getfield 9, 3) := by decide +kernel
set_option maxRecDepth 20000 in
theorem dX4_append_8 : decode cX4_append 8 = .ok (.arraylength, 1) := by decide +kernel
set_option maxRecDepth 20000 in
theorem dX4_append_9 : decode cX4_append 9 = .ok (.invokestatic 19, 3) := by decide +kernel
set_option maxRecDepth 20000 in
theorem dX4_append_12 : decode cX4_append 12 = .ok (.ifCond .eq 15, 3) := by decide +kernel
set_option maxRecDepth 20000 in
theorem dX4_append_15 : decode cX4_append 15 = .ok (.aload_n 1, 1) := by decide +kernel
set_option maxRecDepth 20000 in
theorem dX4_append_16 : decode cX4_append 16 = .ok (.iconst 1, 1) := by decide +kernel
set_option maxRecDepth 20000 in
theorem dX4_append_17 : decode cX4_append 17 = .ok (.iload_n 2, 1) := by decide +kernel
set_option maxRecDepth 20000 in
theorem dX4_append_18 : decode cX4_append 18 = .ok (.invokestatic 23, 3) := by decide +kernel
set_option maxRecDepth 20000 in
theorem dX4_append_21 : decode cX4_append 21 = .ok (.invokevirtual 27, 3) := by decide +kernel
set_option maxRecDepth 20000 in
theorem dX4_append_24 : decode cX4_append 24 = .ok (.ifCond .ne 5, 3) := by decide +kernel
set_option maxRecDepth 20000 in
theorem dX4_append_27 : decode cX4_append 27 = .ok (.iconst 0, 1) := by decide +kernel
set_option maxRecDepth 20000 in
theorem dX4_append_28 : decode cX4_append 28 = .ok (.ireturn, 1) := by decide +kernel
set_option maxRecDepth 20000 in
theorem dX4_append_29 : decode cX4_append 29 = .ok (.aload_n 0, 1) := by decide +kernel
set_option maxRecDepth 20000 in
theorem dX4_append_30 : decode cX4_append 30 = .ok (.getfield 15, 3) := by decide +kernel
set_option maxRecDepth 20000 in
theorem dX4_append_33 : decode cX4_append 33 = .ok (.ifCond .le 27, 3) := by decide +kernel
set_option maxRecDepth 20000 in
theorem dX4_append_36 : decode cX4_append 36 = .ok (.aload_n 1, 1) := by decide +kernel
set_option maxRecDepth 20000 in
theorem dX4_append_37 : decode cX4_append 37 = .ok (.iload_n 2, 1) := by decide +kernel
set_option maxRecDepth 20000 in
theorem dX4_append_38 : decode cX4_append 38 = .ok (.invokevirtual 32, 3) := by decide +kernel
set_option maxRecDepth 20000 in
theorem dX4_append_41 : decode cX4_append 41 = .ok (.aload_n 1, 1) := by decide +kernel
set_option maxRecDepth 20000 in
theorem dX4_append_42 : decode cX4_append 42 = .ok (.aload_n 0, 1) := by decide +kernel
set_option maxRecDepth 20000 in
theorem dX4_append_43 : decode cX4_append 43 = .ok (.aload_n 0, 1) := by decide +kernel
set_option maxRecDepth 20000 in
theorem dX4_append_44 : decode cX4_append 44 = .ok (.getfield 15, 3) := by decide +kernel
set_option maxRecDepth 20000 in
theorem dX4_append_47 : decode cX4_append 47 = .ok (.iconst 1, 1) := by decide +kernel
set_option maxRecDepth 20000 in
theorem dX4_append_48 : decode cX4_append 48 = .ok (.isub, 1) := by decide +kernel
set_option maxRecDepth 20000 in
theorem dX4_append_49 : decode cX4_append 49 = .ok (.invokevirtual 35, 3) := by decide +kernel
set_option maxRecDepth 20000 in
theorem dX4_append_52 : decode cX4_append 52 = .ok (.invokevirtual 38, 3) := by decide +kernel
set_option maxRecDepth 20000 in
theorem dX4_append_55 : decode cX4_append 55 = .ok (.if_icmp .eq 5, 3) := by decide +kernel
set_option maxRecDepth 20000 in
theorem dX4_append_58 : decode cX4_append 58 = .ok (.iconst 0, 1) := by decide +kernel
set_option maxRecDepth 20000 in
theorem dX4_append_59 : decode cX4_append 59 = .ok (.ireturn, 1) := by decide +kernel
set_option maxRecDepth 20000 in
theorem dX4_append_60 : decode cX4_append 60 = .ok (.aload_n 0, 1) := by decide +kernel
set_option maxRecDepth 20000 in
theorem dX4_append_61 : decode cX4_append 61 = .ok (.getfield 9, 3) := by decide +kernel
set_option maxRecDepth 20000 in
theorem dX4_append_64 : decode cX4_append 64 = .ok (.aload_n 0, 1) := by decide +kernel
set_option maxRecDepth 20000 in
theorem dX4_append_65 : decode cX4_append 65 = .ok (.getfield 15, 3) := by decide +kernel
set_option maxRecDepth 20000 in
theorem dX4_append_68 : decode cX4_append 68 = .ok (.iload_n 2, 1) := by decide +kernel
set_option maxRecDepth 20000 in
theorem dX4_append_69 : decode cX4_append 69 = .ok (.iastore, 1) := by decide +kernel
set_option maxRecDepth 20000 in
theorem dX4_append_70 : decode cX4_append 70 = .ok (.aload_n 0, 1) := by decide +kernel
set_option maxRecDepth 20000 in
theorem dX4_append_71 : decode cX4_append 71 = .ok (.dup, 1) := by decide +kernel
set_option maxRecDepth 20000 in
theorem dX4_append_72 : decode cX4_append 72 = .ok (.getfield 15, 3) := by decide +kernel
set_option maxRecDepth 20000 in
theorem dX4_append_75 : decode cX4_append 75 = .ok (.iconst 1, 1) := by decide +kernel
set_option maxRecDepth 20000 in
theorem dX4_append_76 : decode cX4_append 76 = .ok (.iadd, 1) := by decide +kernel
set_option maxRecDepth 20000 in
theorem dX4_append_77 : decode cX4_append 77 = .ok (.putfield 15, 3) := by decide +kernel
set_option maxRecDepth 20000 in
theorem dX4_append_80 : decode cX4_append 80 = .ok (.iconst 1, 1) := by decide +kernel
set_option maxRecDepth 20000 in
theorem dX4_append_81 : decode cX4_append 81 = .ok (.ireturn, 1) := by decide +kernel
set_option maxRecDepth 20000 in
theorem dX4_isClosed_0 : decode cX4_isClosed 0 = .ok (.aload_n 0, 1) := by decide +kernel
set_option maxRecDepth 20000 in
theorem dX4_isClosed_1 : decode cX4_isClosed 1 = .ok (.getfield 15, 3) := by decide +kernel
set_option maxRecDepth 20000 in
theorem dX4_isClosed_4 : decode cX4_isClosed 4 = .ok (.ifCond .le 33, 3) := by decide +kernel
set_option maxRecDepth 20000 in
theorem dX4_isClosed_7 : decode cX4_isClosed 7 = .ok (.aload_n 1, 1) := by decide +kernel
set_option maxRecDepth 20000 in
theorem dX4_isClosed_8 : decode cX4_isClosed 8 = .ok (.aload_n 0, 1) := by decide +kernel
set_option maxRecDepth 20000 in
theorem dX4_isClosed_9 : decode cX4_isClosed 9 = .ok (.iconst 0, 1) := by decide +kernel
set_option maxRecDepth 20000 in
theorem dX4_isClosed_10 : decode cX4_isClosed 10 = .ok (.invokevirtual 35, 3) := by decide +kernel
set_option maxRecDepth 20000 in
theorem dX4_isClosed_13 : decode cX4_isClosed 13 = .ok (.invokevirtual 32, 3) := by decide +kernel
set_option maxRecDepth 20000 in
theorem dX4_isClosed_16 : decode cX4_isClosed 16 = .ok (.aload_n 1, 1) := by decide +kernel
set_option maxRecDepth 20000 in
theorem dX4_isClosed_17 : decode cX4_isClosed 17 = .ok (.aload_n 0, 1) := by decide +kernel
set_option maxRecDepth 20000 in
theorem dX4_isClosed_18 : decode cX4_isClosed 18 = .ok (.aload_n 0, 1) := by decide +kernel
set_option maxRecDepth 20000 in
theorem dX4_isClosed_19 : decode cX4_isClosed 19 = .ok (.getfield 15, 3) := by decide +kernel
set_option maxRecDepth 20000 in
theorem dX4_isClosed_22 : decode cX4_isClosed 22 = .ok (.iconst 1, 1) := by decide +kernel
set_option maxRecDepth 20000 in
theorem dX4_isClosed_23 : decode cX4_isClosed 23 = .ok (.isub, 1) := by decide +kernel
set_option maxRecDepth 20000 in
theorem dX4_isClosed_24 : decode cX4_isClosed 24 = .ok (.invokevirtual 35, 3) := by decide +kernel
set_option maxRecDepth 20000 in
theorem dX4_isClosed_27 : decode cX4_isClosed 27 = .ok (.invokevirtual 38, 3) := by decide +kernel
set_option maxRecDepth 20000 in
theorem dX4_isClosed_30 : decode cX4_isClosed 30 = .ok (.if_icmp .ne 7, 3) := by decide +kernel
set_option maxRecDepth 20000 in
theorem dX4_isClosed_33 : decode cX4_isClosed 33 = .ok (.iconst 1, 1) := by decide +kernel
set_option maxRecDepth 20000 in
theorem dX4_isClosed_34 : decode cX4_isClosed 34 = .ok (.goto 4, 3) := by decide +kernel
set_option maxRecDepth 20000 in
theorem dX4_isClosed_37 : decode cX4_isClosed 37 = .ok (.iconst 0, 1) := by decide +kernel
set_option maxRecDepth 20000 in
theorem dX4_isClosed_38 : decode cX4_isClosed 38 = .ok (.ireturn, 1) := by decide +kernel
set_option maxRecDepth 20000 in
theorem dX5_init_0 : decode cX5_init 0 = .ok (.aload_n 0, 1) := by decide +kernel
set_option maxRecDepth 20000 in
theorem dX5_init_1 : decode cX5_init 1 = .ok (.invokespecial 1, 3) := by decide +kernel
set_option maxRecDepth 20000 in
theorem dX5_init_4 : decode cX5_init 4 = .ok (.aload_n 0, 1) := by decide +kernel
set_option maxRecDepth 20000 in
theorem dX5_init_5 : decode cX5_init 5 = .ok (.new 7, 3) := by decide +kernel
set_option maxRecDepth 20000 in
theorem dX5_init_8 : decode cX5_init 8 = .ok (.dup, 1) := by decide +kernel
set_option maxRecDepth 20000 in
theorem dX5_init_9 : decode cX5_init 9 = .ok (.invokespecial 9, 3) := by decide +kernel
set_option maxRecDepth 20000 in
theorem dX5_init_12 : decode cX5_init 12 = .ok (.putfield 10, 3) := by decide +kernel
set_option maxRecDepth 20000 in
theorem dX5_init_15 : decode cX5_init 15 = .ok (.aload_n 0, 1) := by decide +kernel
set_option maxRecDepth 20000 in
theorem dX5_init_16 : decode cX5_init 16 = .ok (.new 7, 3) := by decide +kernel
set_option maxRecDepth 20000 in
theorem dX5_init_19 : decode cX5_init 19 = .ok (.dup, 1) := by decide +kernel
set_option maxRecDepth 20000 in
theorem dX5_init_20 : decode cX5_init 20 = .ok (.invokespecial 9, 3) := by decide +kernel
set_option maxRecDepth 20000 in
theorem dX5_init_23 : decode cX5_init 23 = .ok (.putfield 16, 3) := by decide +kernel
set_option maxRecDepth 20000 in
theorem dX5_init_26 : decode cX5_init 26 = .ok (.aload_n 0, 1) := by decide +kernel
set_option maxRecDepth 20000 in
theorem dX5_init_27 : decode cX5_init 27 = .ok (.new 19, 3) := by decide +kernel
set_option maxRecDepth 20000 in
theorem dX5_init_30 : decode cX5_init 30 = .ok (.dup, 1) := by decide +kernel
set_option maxRecDepth 20000 in
theorem dX5_init_31 : decode cX5_init 31 = .ok (.invokespecial 21, 3) := by decide +kernel
set_option maxRecDepth 20000 in
theorem dX5_init_34 : decode cX5_init 34 = .ok (.putfield 22, 3) := by decide +kernel
set_option maxRecDepth 20000 in
theorem dX5_init_37 : decode cX5_init 37 = .ok (.aload_n 0, 1) := by decide +kernel
set_option maxRecDepth 20000 in
theorem dX5_init_38 : decode cX5_init 38 = .ok (.new 26, 3) := by decide +kernel
set_option maxRecDepth 20000 in
theorem dX5_init_41 : decode cX5_init 41 = .ok (.dup, 1) := by decide +kernel
set_option maxRecDepth 20000 in
theorem dX5_init_42 : decode cX5_init 42 = .ok (.invokespecial 28, 3) := by decide +kernel
set_option maxRecDepth 20000 in
theorem dX5_init_45 : decode cX5_init 45 = .ok (.putfield 29, 3) := by decide +kernel
set_option maxRecDepth 20000 in
theorem dX5_init_48 : decode cX5_init 48 = .ok (.aload_n 0, 1) := by decide +kernel
set_option maxRecDepth 20000 in
theorem dX5_init_49 : decode cX5_init 49 = .ok (.new 33, 3) := by decide +kernel
set_option maxRecDepth 20000 in
theorem dX5_init_52 : decode cX5_init 52 = .ok (.dup, 1) := by decide +kernel
set_option maxRecDepth 20000 in
theorem dX5_init_53 : decode cX5_init 53 = .ok (.invokespecial 35, 3) := by decide +kernel
set_option maxRecDepth 20000 in
theorem dX5_init_56 : decode cX5_init 56 = .ok (.putfield 36, 3) := by decide +kernel
set_option maxRecDepth 20000 in
theorem dX5_init_59 : decode cX5_init 59 = .ok (.aload_n 0, 1) := by decide +kernel
set_option maxRecDepth 20000 in
theorem dX5_init_60 : decode cX5_init 60 = .ok (.new 40, 3) := by decide +kernel
set_option maxRecDepth 20000 in
theorem dX5_init_63 : decode cX5_init 63 = .ok (.dup, 1) := by decide +kernel
set_option maxRecDepth 20000 in
theorem dX5_init_64 : decode cX5_init 64 = .ok (.invokespecial 42, 3) := by decide +kernel
set_option maxRecDepth 20000 in
theorem dX5_init_67 : decode cX5_init 67 = .ok (.putfield 43, 3) := by decide +kernel
set_option maxRecDepth 20000 in
theorem dX5_init_70 : decode cX5_init 70 = .ok (.aload_n 0, 1) := by decide +kernel
set_option maxRecDepth 20000 in
theorem dX5_init_71 : decode cX5_init 71 = .ok (.bipush 8, 2) := by decide +kernel
set_option maxRecDepth 20000 in
theorem dX5_init_73 : decode cX5_init 73 = .ok (.bipush 63, 2) := by decide +kernel
set_option maxRecDepth 20000 in
theorem dX5_init_75 : decode cX5_init 75 = .ok (.multianewarray 47 2, 4) := by decide +kernel
set_option maxRecDepth 20000 in
theorem dX5_init_79 : decode cX5_init 79 = .ok (.putfield 49, 3) := by decide +kernel
set_option maxRecDepth 20000 in
theorem dX5_init_82 : decode cX5_init 82 = .ok (.aload_n 0, 1) := by decide +kernel
set_option maxRecDepth 20000 in
theorem dX5_init_83 : decode cX5_init 83 = .ok (.iconst 2, 1) := by decide +kernel
set_option maxRecDepth 20000 in
theorem dX5_init_84 : decode cX5_init 84 = .ok (.bipush 63, 2) := by decide +kernel
set_option maxRecDepth 20000 in
theorem dX5_init_86 : decode cX5_init 86 = .ok (.multianewarray 47 2, 4) := by decide +kernel
set_option maxRecDepth 20000 in
theorem dX5_init_90 : decode cX5_init 90 = .ok (.putfield 52, 3) := by decide +kernel
set_option maxRecDepth 20000 in
theorem dX5_init_93 : decode cX5_init 93 = .ok (.aload_n 0, 1) := by decide +kernel
set_option maxRecDepth 20000 in
theorem dX5_init_94 : decode cX5_init 94 = .ok (.iconst 0, 1) := by decide +kernel
set_option maxRecDepth 20000 in
theorem dX5_init_95 : decode cX5_init 95 = .ok (.putfield 55, 3) := by decide +kernel
set_option maxRecDepth 20000 in
theorem dX5_init_98 : decode cX5_init 98 = .ok (.aload_n 0, 1) := by decide +kernel
set_option maxRecDepth 20000 in
theorem dX5_init_99 : decode cX5_init 99 = .ok (.iconst 0, 1) := by decide +kernel
set_option maxRecDepth 20000 in
theorem dX5_init_100 : decode cX5_init 100 = .ok (.putfield 59, 3) := by decide +kernel
set_option maxRecDepth 20000 in
theorem dX5_init_103 : decode cX5_init 103 = .ok (.aload_n 0, 1) := by decide +kernel
set_option maxRecDepth 20000 in
theorem dX5_init_104 : decode cX5_init 104 = .ok (.iconst 0, 1) := by decide +kernel
set_option maxRecDepth 20000 in
theorem dX5_init_105 : decode cX5_init 105 = .ok (.putfield 62, 3) := by decide +kernel
set_option maxRecDepth 20000 in
theorem dX5_init_108 : decode cX5_init 108 = .ok (.return_, 1) := by decide +kernel
set_option maxRecDepth 20000 in
theorem dX5_feed_0 : decode cX5_feed 0 = .ok (.iload_n 1, 1) := by decide +kernel
set_option maxRecDepth 20000 in
theorem dX5_feed_1 : decode cX5_feed 1 = .ok (.ifCond .lt 10, 3) := by decide +kernel
set_option maxRecDepth 20000 in
theorem dX5_feed_4 : decode cX5_feed 4 = .ok (.iload_n 1, 1) := by decide +kernel
set_option maxRecDepth 20000 in
theorem dX5_feed_5 : decode cX5_feed 5 = .ok (.sipush 255, 3) := by decide +kernel
set_option maxRecDepth 20000 in
theorem dX5_feed_8 : decode cX5_feed 8 = .ok (.if_icmp .le 6, 3) := by decide +kernel
set_option maxRecDepth 20000 in
theorem dX5_feed_11 : decode cX5_feed 11 = .ok (.ldc 65, 2) := by decide +kernel
set_option maxRecDepth 20000 in
theorem dX5_feed_13 : decode cX5_feed 13 = .ok (.ireturn, 1) := by decide +kernel
set_option maxRecDepth 20000 in
theorem dX5_feed_14 : decode cX5_feed 14 = .ok (.aload_n 0, 1) := by decide +kernel
set_option maxRecDepth 20000 in
theorem dX5_feed_15 : decode cX5_feed 15 = .ok (.getfield 22, 3) := by decide +kernel
set_option maxRecDepth 20000 in
theorem dX5_feed_18 : decode cX5_feed 18 = .ok (.iload_n 1, 1) := by decide +kernel
set_option maxRecDepth 20000 in
theorem dX5_feed_19 : decode cX5_feed 19 = .ok (.invokevirtual 66, 3) := by decide +kernel
set_option maxRecDepth 20000 in
theorem dX5_feed_22 : decode cX5_feed 22 = .ok (.ifCond .eq 13, 3) := by decide +kernel
set_option maxRecDepth 20000 in
theorem dX5_feed_25 : decode cX5_feed 25 = .ok (.aload_n 0, 1) := by decide +kernel
set_option maxRecDepth 20000 in
theorem dX5_feed_26 : decode cX5_feed 26 = .ok (.getfield 22, 3) := by decide +kernel
set_option maxRecDepth 20000 in
theorem dX5_feed_29 : decode cX5_feed 29 = .ok (.invokevirtual 70, 3) := by decide +kernel
set_option maxRecDepth 20000 in
theorem dX5_feed_32 : decode cX5_feed 32 = .ok (.goto 5, 3) := by decide +kernel
set_option maxRecDepth 20000 in
theorem dX5_feed_35 : decode cX5_feed 35 = .ok (.ldc 74, 2) := by decide +kernel
set_option maxRecDepth 20000 in
theorem dX5_feed_37 : decode cX5_feed 37 = .ok (.ireturn, 1) := by decide +kernel
set_option maxRecDepth 20000 in
theorem dX5_complex_0 : decode cX5_complex 0 = .ok (.aload_n 0, 1) := by decide +kernel
set_option maxRecDepth 20000 in
theorem dX5_complex_1 : decode cX5_complex 1 = .ok (.getfield 22, 3) := by decide +kernel
set_option maxRecDepth 20000 in
theorem dX5_complex_4 : decode cX5_complex 4 = .ok (.aload_n 0, 1) := by decide +kernel
set_option maxRecDepth 20000 in
theorem dX5_complex_5 : decode cX5_complex 5 = .ok (.getfield 16, 3) := by decide +kernel
set_option maxRecDepth 20000 in
theorem dX5_complex_8 : decode cX5_complex 8 = .ok (.aload_n 0, 1) := by decide +kernel
set_option maxRecDepth 20000 in
theorem dX5_complex_9 : decode cX5_complex 9 = .ok (.getfield 29, 3) := by decide +kernel
set_option maxRecDepth 20000 in
theorem dX5_complex_12 : decode cX5_complex 12 = .ok (.invokevirtual 75, 3) := by decide +kernel
set_option maxRecDepth 20000 in
theorem dX5_complex_15 : decode cX5_complex 15 = .ok (.istore_n 1, 1) := by decide +kernel
set_option maxRecDepth 20000 in
theorem dX5_complex_16 : decode cX5_complex 16 = .ok (.aload_n 0, 1) := by decide +kernel
set_option maxRecDepth 20000 in
theorem dX5_complex_17 : decode cX5_complex 17 = .ok (.getfield 22, 3) := by decide +kernel
set_option maxRecDepth 20000 in
theorem dX5_complex_20 : decode cX5_complex 20 = .ok (.invokevirtual 79, 3) := by decide +kernel
set_option maxRecDepth 20000 in
theorem dX5_complex_23 : decode cX5_complex 23 = .ok (.iload_n 1, 1) := by decide +kernel
set_option maxRecDepth 20000 in
theorem dX5_complex_24 : decode cX5_complex 24 = .ok (.ifCond .ne 25, 3) := by decide +kernel
set_option maxRecDepth 20000 in
theorem dX5_complex_27 : decode cX5_complex 27 = .ok (.aload_n 0, 1) := by decide +kernel
set_option maxRecDepth 20000 in
theorem dX5_complex_28 : decode cX5_complex 28 = .ok (.aload_n 0, 1) := by decide +kernel
set_option maxRecDepth 20000 in
theorem dX5_complex_29 : decode cX5_complex 29 = .ok (.getfield 22, 3) := by decide +kernel
set_option maxRecDepth 20000 in
theorem dX5_complex_32 : decode cX5_complex 32 = .ok (.invokevirtual 82, 3) := by decide +kernel
set_option maxRecDepth 20000 in
theorem dX5_complex_35 : decode cX5_complex 35 = .ok (.putfield 62, 3) := by decide +kernel
set_option maxRecDepth 20000 in
theorem dX5_complex_38 : decode cX5_complex 38 = .ok (.ldc 85, 2) := by decide +kernel
set_option maxRecDepth 20000 in
theorem dX5_complex_40 : decode cX5_complex 40 = .ok (.aload_n 0, 1) := by decide +kernel
set_option maxRecDepth 20000 in
theorem dX5_complex_41 : decode cX5_complex 41 = .ok (.getfield 22, 3) := by decide +kernel
set_option maxRecDepth 20000 in
theorem dX5_complex_44 : decode cX5_complex 44 = .ok (.invokevirtual 86, 3) := by decide +kernel
set_option maxRecDepth 20000 in
theorem dX5_complex_47 : decode cX5_complex 47 = .ok (.isub, 1) := by decide +kernel
set_option maxRecDepth 20000 in
theorem dX5_complex_48 : decode cX5_complex 48 = .ok (.ireturn, 1) := by decide +kernel
set_option maxRecDepth 20000 in
theorem dX5_complex_49 : decode cX5_complex 49 = .ok (.aload_n 0, 1) := by decide +kernel
set_option maxRecDepth 20000 in
theorem dX5_complex_50 : decode cX5_complex 50 = .ok (.getfield 10, 3) := by decide +kernel
set_option maxRecDepth 20000 in
theorem dX5_complex_53 : decode cX5_complex 53 = .ok (.aload_n 0, 1) := by decide +kernel
set_option maxRecDepth 20000 in
theorem dX5_complex_54 : decode cX5_complex 54 = .ok (.getfield 16, 3) := by decide +kernel
set_option maxRecDepth 20000 in
theorem dX5_complex_57 : decode cX5_complex 57 = .ok (.invokevirtual 89, 3) := by decide +kernel
set_option maxRecDepth 20000 in
theorem dX5_complex_60 : decode cX5_complex 60 = .ok (.invokevirtual 93, 3) := by decide +kernel
set_option maxRecDepth 20000 in
theorem dX5_complex_63 : decode cX5_complex 63 = .ok (.aload_n 0, 1) := by decide +kernel
set_option maxRecDepth 20000 in
theorem dX5_complex_64 : decode cX5_complex 64 = .ok (.iconst 0, 1) := by decide +kernel
set_option maxRecDepth 20000 in
theorem dX5_complex_65 : decode cX5_complex 65 = .ok (.putfield 59, 3) := by decide +kernel
set_option maxRecDepth 20000 in
theorem dX5_complex_68 : decode cX5_complex 68 = .ok (.aload_n 0, 1) := by decide +kernel
set_option maxRecDepth 20000 in
theorem dX5_complex_69 : decode cX5_complex 69 = .ok (.getfield 10, 3) := by decide +kernel
set_option maxRecDepth 20000 in
theorem dX5_complex_72 : decode cX5_complex 72 = .ok (.iconst 0, 1) := by decide +kernel
set_option maxRecDepth 20000 in
theorem dX5_complex_73 : decode cX5_complex 73 = .ok (.invokevirtual 97, 3) := by decide +kernel
set_option maxRecDepth 20000 in
theorem dX5_complex_76 : decode cX5_complex 76 = .ok (.aload_n 0, 1) := by decide +kernel
set_option maxRecDepth 20000 in
theorem dX5_complex_77 : decode cX5_complex 77 = .ok (.getfield 10, 3) := by decide +kernel
set_option maxRecDepth 20000 in
theorem dX5_complex_80 : decode cX5_complex 80 = .ok (.iconst 1, 1) := by decide +kernel
set_option maxRecDepth 20000 in
theorem dX5_complex_81 : decode cX5_complex 81 = .ok (.invokevirtual 97, 3) := by decide +kernel
set_option maxRecDepth 20000 in
theorem dX5_complex_84 : decode cX5_complex 84 = .ok (.iadd, 1) := by decide +kernel
set_option maxRecDepth 20000 in
theorem dX5_complex_85 : decode cX5_complex 85 = .ok (.aload_n 0, 1) := by decide +kernel
set_option maxRecDepth 20000 in
theorem dX5_complex_86 : decode cX5_complex 86 = .ok (.getfield 10, 3) := by decide +kernel
set_option maxRecDepth 20000 in
theorem dX5_complex_89 : decode cX5_complex 89 = .ok (.iconst 2, 1) := by decide +kernel
set_option maxRecDepth 20000 in
theorem dX5_complex_90 : decode cX5_complex 90 = .ok (.invokevirtual 97, 3) := by decide +kernel
set_option maxRecDepth 20000 in
theorem dX5_complex_93 : decode cX5_complex 93 = .ok (.iadd, 1) := by decide +kernel
set_option maxRecDepth 20000 in
theorem dX5_complex_94 : decode cX5_complex 94 = .ok (.ireturn, 1) := by decide +kernel
set_option maxRecDepth 20000 in
theorem dX5_fault_0 : decode cX5_fault 0 = .ok (.aload_n 0, 1) := by decide +kernel
set_option maxRecDepth 20000 in
theorem dX5_fault_1 : decode cX5_fault 1 = .ok (.getfield 62, 3) := by decide +kernel
set_option maxRecDepth 20000 in
theorem dX5_fault_4 : decode cX5_fault 4 = .ok (.ireturn, 1) := by decide +kernel
set_option maxRecDepth 20000 in
theorem dX5_undo_0 : decode cX5_undo 0 = .ok (.aload_n 0, 1) := by decide +kernel
set_option maxRecDepth 20000 in
theorem dX5_undo_1 : decode cX5_undo 1 = .ok (.getfield 59, 3) := by decide +kernel
set_option maxRecDepth 20000 in
theorem dX5_undo_4 : decode cX5_undo 4 = .ok (.ifCond .le 18, 3) := by decide +kernel
set_option maxRecDepth 20000 in
theorem dX5_undo_7 : decode cX5_undo 7 = .ok (.aload_n 0, 1) := by decide +kernel
set_option maxRecDepth 20000 in
theorem dX5_undo_8 : decode cX5_undo 8 = .ok (.getfield 55, 3) := by decide +kernel
set_option maxRecDepth 20000 in
theorem dX5_undo_11 : decode cX5_undo 11 = .ok (.aload_n 0, 1) := by decide +kernel
set_option maxRecDepth 20000 in
theorem dX5_undo_12 : decode cX5_undo 12 = .ok (.getfield 49, 3) := by decide +kernel
set_option maxRecDepth 20000 in
theorem dX5_undo_15 : decode cX5_undo 15 = .ok (.arraylength, 1) := by decide +kernel
set_option maxRecDepth 20000 in
theorem dX5_undo_16 : decode cX5_undo 16 = .ok (.invokestatic 101, 3) := by decide +kernel
set_option maxRecDepth 20000 in
theorem dX5_undo_19 : decode cX5_undo 19 = .ok (.ifCond .ne 6, 3) := by decide +kernel
set_option maxRecDepth 20000 in
theorem dX5_undo_22 : decode cX5_undo 22 = .ok (.ldc 105, 2) := by decide +kernel
set_option maxRecDepth 20000 in
theorem dX5_undo_24 : decode cX5_undo 24 = .ok (.ireturn, 1) := by decide +kernel
set_option maxRecDepth 20000 in
theorem dX5_undo_25 : decode cX5_undo 25 = .ok (.aload_n 0, 1) := by decide +kernel
set_option maxRecDepth 20000 in
theorem dX5_undo_26 : decode cX5_undo 26 = .ok (.getfield 10, 3) := by decide +kernel
set_option maxRecDepth 20000 in
theorem dX5_undo_29 : decode cX5_undo 29 = .ok (.aload_n 0, 1) := by decide +kernel
set_option maxRecDepth 20000 in
theorem dX5_undo_30 : decode cX5_undo 30 = .ok (.getfield 49, 3) := by decide +kernel
set_option maxRecDepth 20000 in
theorem dX5_undo_33 : decode cX5_undo 33 = .ok (.aload_n 0, 1) := by decide +kernel
set_option maxRecDepth 20000 in
theorem dX5_undo_34 : decode cX5_undo 34 = .ok (.getfield 55, 3) := by decide +kernel
set_option maxRecDepth 20000 in
theorem dX5_undo_37 : decode cX5_undo 37 = .ok (.aaload, 1) := by decide +kernel
set_option maxRecDepth 20000 in
theorem dX5_undo_38 : decode cX5_undo 38 = .ok (.invokevirtual 93, 3) := by decide +kernel
set_option maxRecDepth 20000 in
theorem dX5_undo_41 : decode cX5_undo 41 = .ok (.aload_n 0, 1) := by decide +kernel
set_option maxRecDepth 20000 in
theorem dX5_undo_42 : decode cX5_undo 42 = .ok (.aload_n 0, 1) := by decide +kernel
set_option maxRecDepth 20000 in
theorem dX5_undo_43 : decode cX5_undo 43 = .ok (.getfield 55, 3) := by decide +kernel
set_option maxRecDepth 20000 in
theorem dX5_undo_46 : decode cX5_undo 46 = .ok (.bipush 8, 2) := by decide +kernel
set_option maxRecDepth 20000 in
theorem dX5_undo_48 : decode cX5_undo 48 = .ok (.iadd, 1) := by decide +kernel
set_option maxRecDepth 20000 in
theorem dX5_undo_49 : decode cX5_undo 49 = .ok (.iconst 1, 1) := by decide +kernel
set_option maxRecDepth 20000 in
theorem dX5_undo_50 : decode cX5_undo 50 = .ok (.isub, 1) := by decide +kernel
set_option maxRecDepth 20000 in
theorem dX5_undo_51 : decode cX5_undo 51 = .ok (.bipush 8, 2) := by decide +kernel
set_option maxRecDepth 20000 in
theorem dX5_undo_53 : decode cX5_undo 53 = .ok (.irem, 1) := by decide +kernel
set_option maxRecDepth 20000 in
theorem dX5_undo_54 : decode cX5_undo 54 = .ok (.putfield 55, 3) := by decide +kernel
set_option maxRecDepth 20000 in
theorem dX5_undo_57 : decode cX5_undo 57 = .ok (.aload_n 0, 1) := by decide +kernel
set_option maxRecDepth 20000 in
theorem dX5_undo_58 : decode cX5_undo 58 = .ok (.dup, 1) := by decide +kernel
set_option maxRecDepth 20000 in
theorem dX5_undo_59 : decode cX5_undo 59 = .ok (.getfield 59, 3) := by decide +kernel
set_option maxRecDepth 20000 in
theorem dX5_undo_62 : decode cX5_undo 62 = .ok (.iconst 1, 1) := by decide +kernel
set_option maxRecDepth 20000 in
theorem dX5_undo_63 : decode cX5_undo 63 = .ok (.isub, 1) := by decide +kernel
set_option maxRecDepth 20000 in
theorem dX5_undo_64 : decode cX5_undo 64 = .ok (.putfield 59, 3) := by decide +kernel
set_option maxRecDepth 20000 in
theorem dX5_undo_67 : decode cX5_undo 67 = .ok (.aload_n 0, 1) := by decide +kernel
set_option maxRecDepth 20000 in
theorem dX5_undo_68 : decode cX5_undo 68 = .ok (.getfield 59, 3) := by decide +kernel
set_option maxRecDepth 20000 in
theorem dX5_undo_71 : decode cX5_undo 71 = .ok (.ireturn, 1) := by decide +kernel
set_option maxRecDepth 20000 in
theorem dX5_weigh_0 : decode cX5_weigh 0 = .ok (.aload_n 0, 1) := by decide +kernel
set_option maxRecDepth 20000 in
theorem dX5_weigh_1 : decode cX5_weigh 1 = .ok (.iload_n 1, 1) := by decide +kernel
set_option maxRecDepth 20000 in
theorem dX5_weigh_2 : decode cX5_weigh 2 = .ok (.iload_n 2, 1) := by decide +kernel
set_option maxRecDepth 20000 in
theorem dX5_weigh_3 : decode cX5_weigh 3 = .ok (.invokevirtual 106, 3) := by decide +kernel
set_option maxRecDepth 20000 in
theorem dX5_weigh_6 : decode cX5_weigh 6 = .ok (.ifCond .eq 10, 3) := by decide +kernel
set_option maxRecDepth 20000 in
theorem dX5_weigh_9 : decode cX5_weigh 9 = .ok (.iload_n 3, 1) := by decide +kernel
set_option maxRecDepth 20000 in
theorem dX5_weigh_10 : decode cX5_weigh 10 = .ok (.invokestatic 109, 3) := by decide +kernel
set_option maxRecDepth 20000 in
theorem dX5_weigh_13 : decode cX5_weigh 13 = .ok (.ifCond .ne 6, 3) := by decide +kernel
set_option maxRecDepth 20000 in
theorem dX5_weigh_16 : decode cX5_weigh 16 = .ok (.ldc 65, 2) := by decide +kernel
set_option maxRecDepth 20000 in
theorem dX5_weigh_18 : decode cX5_weigh 18 = .ok (.ireturn, 1) := by decide +kernel
set_option maxRecDepth 20000 in
theorem dX5_weigh_19 : decode cX5_weigh 19 = .ok (.aload_n 0, 1) := by decide +kernel
set_option maxRecDepth 20000 in
theorem dX5_weigh_20 : decode cX5_weigh 20 = .ok (.getfield 10, 3) := by decide +kernel
set_option maxRecDepth 20000 in
theorem dX5_weigh_23 : decode cX5_weigh 23 = .ok (.iload_n 1, 1) := by decide +kernel
set_option maxRecDepth 20000 in
theorem dX5_weigh_24 : decode cX5_weigh 24 = .ok (.iload_n 2, 1) := by decide +kernel
set_option maxRecDepth 20000 in
theorem dX5_weigh_25 : decode cX5_weigh 25 = .ok (.invokevirtual 112, 3) := by decide +kernel
set_option maxRecDepth 20000 in
theorem dX5_weigh_28 : decode cX5_weigh 28 = .ok (.istore 4, 2) := by decide +kernel
set_option maxRecDepth 20000 in
theorem dX5_weigh_30 : decode cX5_weigh 30 = .ok (.aload_n 0, 1) := by decide +kernel
set_option maxRecDepth 20000 in
theorem dX5_weigh_31 : decode cX5_weigh 31 = .ok (.invokevirtual 116, 3) := by decide +kernel
set_option maxRecDepth 20000 in
theorem dX5_weigh_34 : decode cX5_weigh 34 = .ok (.aload_n 0, 1) := by decide +kernel
set_option maxRecDepth 20000 in
theorem dX5_weigh_35 : decode cX5_weigh 35 = .ok (.getfield 10, 3) := by decide +kernel
set_option maxRecDepth 20000 in
theorem dX5_weigh_38 : decode cX5_weigh 38 = .ok (.iload_n 1, 1) := by decide +kernel
set_option maxRecDepth 20000 in
theorem dX5_weigh_39 : decode cX5_weigh 39 = .ok (.iload_n 2, 1) := by decide +kernel
set_option maxRecDepth 20000 in
theorem dX5_weigh_40 : decode cX5_weigh 40 = .ok (.iload_n 3, 1) := by decide +kernel
set_option maxRecDepth 20000 in
theorem dX5_weigh_41 : decode cX5_weigh 41 = .ok (.invokevirtual 119, 3) := by decide +kernel
set_option maxRecDepth 20000 in
theorem dX5_weigh_44 : decode cX5_weigh 44 = .ok (.iload 4, 2) := by decide +kernel
set_option maxRecDepth 20000 in
theorem dX5_weigh_46 : decode cX5_weigh 46 = .ok (.ireturn, 1) := by decide +kernel
set_option maxRecDepth 20000 in
theorem dX5_edge_0 : decode cX5_edge 0 = .ok (.aload_n 0, 1) := by decide +kernel
set_option maxRecDepth 20000 in
theorem dX5_edge_1 : decode cX5_edge 1 = .ok (.getfield 10, 3) := by decide +kernel
set_option maxRecDepth 20000 in
theorem dX5_edge_4 : decode cX5_edge 4 = .ok (.invokevirtual 123, 3) := by decide +kernel
set_option maxRecDepth 20000 in
theorem dX5_edge_7 : decode cX5_edge 7 = .ok (.ifCond .ne 6, 3) := by decide +kernel
set_option maxRecDepth 20000 in
theorem dX5_edge_10 : decode cX5_edge 10 = .ok (.ldc 105, 2) := by decide +kernel
set_option maxRecDepth 20000 in
theorem dX5_edge_12 : decode cX5_edge 12 = .ok (.ireturn, 1) := by decide +kernel
set_option maxRecDepth 20000 in
theorem dX5_edge_13 : decode cX5_edge 13 = .ok (.aload_n 0, 1) := by decide +kernel
set_option maxRecDepth 20000 in
theorem dX5_edge_14 : decode cX5_edge 14 = .ok (.getfield 10, 3) := by decide +kernel
set_option maxRecDepth 20000 in
theorem dX5_edge_17 : decode cX5_edge 17 = .ok (.iconst 0, 1) := by decide +kernel
set_option maxRecDepth 20000 in
theorem dX5_edge_18 : decode cX5_edge 18 = .ok (.iload_n 1, 1) := by decide +kernel
set_option maxRecDepth 20000 in
theorem dX5_edge_19 : decode cX5_edge 19 = .ok (.invokevirtual 127, 3) := by decide +kernel
set_option maxRecDepth 20000 in
theorem dX5_edge_22 : decode cX5_edge 22 = .ok (.ifCond .eq 22, 3) := by decide +kernel
set_option maxRecDepth 20000 in
theorem dX5_edge_25 : decode cX5_edge 25 = .ok (.aload_n 0, 1) := by decide +kernel
set_option maxRecDepth 20000 in
theorem dX5_edge_26 : decode cX5_edge 26 = .ok (.getfield 10, 3) := by decide +kernel
set_option maxRecDepth 20000 in
theorem dX5_edge_29 : decode cX5_edge 29 = .ok (.iconst 0, 1) := by decide +kernel
set_option maxRecDepth 20000 in
theorem dX5_edge_30 : decode cX5_edge 30 = .ok (.iload_n 2, 1) := by decide +kernel
set_option maxRecDepth 20000 in
theorem dX5_edge_31 : decode cX5_edge 31 = .ok (.invokevirtual 127, 3) := by decide +kernel
set_option maxRecDepth 20000 in
theorem dX5_edge_34 : decode cX5_edge 34 = .ok (.ifCond .eq 10, 3) := by decide +kernel
set_option maxRecDepth 20000 in
theorem dX5_edge_37 : decode cX5_edge 37 = .ok (.iload_n 3, 1) := by decide +kernel
set_option maxRecDepth 20000 in
theorem dX5_edge_38 : decode cX5_edge 38 = .ok (.invokestatic 109, 3) := by decide +kernel
set_option maxRecDepth 20000 in
theorem dX5_edge_41 : decode cX5_edge 41 = .ok (.ifCond .ne 6, 3) := by decide +kernel
set_option maxRecDepth 20000 in
theorem dX5_edge_44 : decode cX5_edge 44 = .ok (.ldc 65, 2) := by decide +kernel
set_option maxRecDepth 20000 in
theorem dX5_edge_46 : decode cX5_edge 46 = .ok (.ireturn, 1) := by decide +kernel
set_option maxRecDepth 20000 in
theorem dX5_edge_47 : decode cX5_edge 47 = .ok (.aload_n 0, 1) := by decide +kernel
set_option maxRecDepth 20000 in
theorem dX5_edge_48 : decode cX5_edge 48 = .ok (.getfield 10, 3) := by decide +kernel
set_option maxRecDepth 20000 in
theorem dX5_edge_51 : decode cX5_edge 51 = .ok (.iconst 1, 1) := by decide +kernel
set_option maxRecDepth 20000 in
theorem dX5_edge_52 : decode cX5_edge 52 = .ok (.invokevirtual 97, 3) := by decide +kernel
set_option maxRecDepth 20000 in
theorem dX5_edge_55 : decode cX5_edge 55 = .ok (.bipush 6, 2) := by decide +kernel
set_option maxRecDepth 20000 in
theorem dX5_edge_57 : decode cX5_edge 57 = .ok (.if_icmp .lt 6, 3) := by decide +kernel
set_option maxRecDepth 20000 in
theorem dX5_edge_60 : decode cX5_edge 60 = .ok (.ldc 74, 2) := by decide +kernel
set_option maxRecDepth 20000 in
theorem dX5_edge_62 : decode cX5_edge 62 = .ok (.ireturn, 1) := by decide +kernel
set_option maxRecDepth 20000 in
theorem dX5_edge_63 : decode cX5_edge 63 = .ok (.aload_n 0, 1) := by decide +kernel
set_option maxRecDepth 20000 in
theorem dX5_edge_64 : decode cX5_edge 64 = .ok (.invokevirtual 116, 3) := by decide +kernel
set_option maxRecDepth 20000 in
theorem dX5_edge_67 : decode cX5_edge 67 = .ok (.aload_n 0, 1) := by decide +kernel
set_option maxRecDepth 20000 in
theorem dX5_edge_68 : decode cX5_edge 68 = .ok (.getfield 10, 3) := by decide +kernel
set_option maxRecDepth 20000 in
theorem dX5_edge_71 : decode cX5_edge 71 = .ok (.iload_n 1, 1) := by decide +kernel
set_option maxRecDepth 20000 in
theorem dX5_edge_72 : decode cX5_edge 72 = .ok (.iload_n 2, 1) := by decide +kernel
set_option maxRecDepth 20000 in
theorem dX5_edge_73 : decode cX5_edge 73 = .ok (.iload_n 3, 1) := by decide +kernel
set_option maxRecDepth 20000 in
theorem dX5_edge_74 : decode cX5_edge 74 = .ok (.invokevirtual 130, 3) := by decide +kernel
set_option maxRecDepth 20000 in
theorem dX5_edge_77 : decode cX5_edge 77 = .ok (.aload_n 0, 1) := by decide +kernel
set_option maxRecDepth 20000 in
theorem dX5_edge_78 : decode cX5_edge 78 = .ok (.getfield 10, 3) := by decide +kernel
set_option maxRecDepth 20000 in
theorem dX5_edge_81 : decode cX5_edge 81 = .ok (.iconst 1, 1) := by decide +kernel
set_option maxRecDepth 20000 in
theorem dX5_edge_82 : decode cX5_edge 82 = .ok (.invokevirtual 97, 3) := by decide +kernel
set_option maxRecDepth 20000 in
theorem dX5_edge_85 : decode cX5_edge 85 = .ok (.iconst 1, 1) := by decide +kernel
set_option maxRecDepth 20000 in
theorem dX5_edge_86 : decode cX5_edge 86 = .ok (.isub, 1) := by decide +kernel
set_option maxRecDepth 20000 in
theorem dX5_edge_87 : decode cX5_edge 87 = .ok (.ireturn, 1) := by decide +kernel
set_option maxRecDepth 20000 in
theorem dX5_face_0 : decode cX5_face 0 = .ok (.aload_n 0, 1) := by decide +kernel
set_option maxRecDepth 20000 in
theorem dX5_face_1 : decode cX5_face 1 = .ok (.getfield 22, 3) := by decide +kernel
set_option maxRecDepth 20000 in
theorem dX5_face_4 : decode cX5_face 4 = .ok (.aload_n 0, 1) := by decide +kernel
set_option maxRecDepth 20000 in
theorem dX5_face_5 : decode cX5_face 5 = .ok (.getfield 10, 3) := by decide +kernel
set_option maxRecDepth 20000 in
theorem dX5_face_8 : decode cX5_face 8 = .ok (.aload_n 0, 1) := by decide +kernel
set_option maxRecDepth 20000 in
theorem dX5_face_9 : decode cX5_face 9 = .ok (.getfield 29, 3) := by decide +kernel
set_option maxRecDepth 20000 in
theorem dX5_face_12 : decode cX5_face 12 = .ok (.invokevirtual 133, 3) := by decide +kernel
set_option maxRecDepth 20000 in
theorem dX5_face_15 : decode cX5_face 15 = .ok (.istore_n 2, 1) := by decide +kernel
set_option maxRecDepth 20000 in
theorem dX5_face_16 : decode cX5_face 16 = .ok (.aload_n 0, 1) := by decide +kernel
set_option maxRecDepth 20000 in
theorem dX5_face_17 : decode cX5_face 17 = .ok (.getfield 22, 3) := by decide +kernel
set_option maxRecDepth 20000 in
theorem dX5_face_20 : decode cX5_face 20 = .ok (.invokevirtual 79, 3) := by decide +kernel
set_option maxRecDepth 20000 in
theorem dX5_face_23 : decode cX5_face 23 = .ok (.aload_n 0, 1) := by decide +kernel
set_option maxRecDepth 20000 in
theorem dX5_face_24 : decode cX5_face 24 = .ok (.getfield 10, 3) := by decide +kernel
set_option maxRecDepth 20000 in
theorem dX5_face_27 : decode cX5_face 27 = .ok (.invokevirtual 123, 3) := by decide +kernel
set_option maxRecDepth 20000 in
theorem dX5_face_30 : decode cX5_face 30 = .ok (.ifCond .ne 6, 3) := by decide +kernel
set_option maxRecDepth 20000 in
theorem dX5_face_33 : decode cX5_face 33 = .ok (.ldc 105, 2) := by decide +kernel
set_option maxRecDepth 20000 in
theorem dX5_face_35 : decode cX5_face 35 = .ok (.ireturn, 1) := by decide +kernel
set_option maxRecDepth 20000 in
theorem dX5_face_36 : decode cX5_face 36 = .ok (.iload_n 2, 1) := by decide +kernel
set_option maxRecDepth 20000 in
theorem dX5_face_37 : decode cX5_face 37 = .ok (.ifCond .eq 10, 3) := by decide +kernel
set_option maxRecDepth 20000 in
theorem dX5_face_40 : decode cX5_face 40 = .ok (.iload_n 1, 1) := by decide +kernel
set_option maxRecDepth 20000 in
theorem dX5_face_41 : decode cX5_face 41 = .ok (.invokestatic 109, 3) := by decide +kernel
set_option maxRecDepth 20000 in
theorem dX5_face_44 : decode cX5_face 44 = .ok (.ifCond .ne 6, 3) := by decide +kernel
set_option maxRecDepth 20000 in
theorem dX5_face_47 : decode cX5_face 47 = .ok (.ldc 65, 2) := by decide +kernel
set_option maxRecDepth 20000 in
theorem dX5_face_49 : decode cX5_face 49 = .ok (.ireturn, 1) := by decide +kernel
set_option maxRecDepth 20000 in
theorem dX5_face_50 : decode cX5_face 50 = .ok (.aload_n 0, 1) := by decide +kernel
set_option maxRecDepth 20000 in
theorem dX5_face_51 : decode cX5_face 51 = .ok (.getfield 10, 3) := by decide +kernel
set_option maxRecDepth 20000 in
theorem dX5_face_54 : decode cX5_face 54 = .ok (.iconst 2, 1) := by decide +kernel
set_option maxRecDepth 20000 in
theorem dX5_face_55 : decode cX5_face 55 = .ok (.invokevirtual 97, 3) := by decide +kernel
set_option maxRecDepth 20000 in
theorem dX5_face_58 : decode cX5_face 58 = .ok (.iconst 4, 1) := by decide +kernel
set_option maxRecDepth 20000 in
theorem dX5_face_59 : decode cX5_face 59 = .ok (.if_icmp .lt 6, 3) := by decide +kernel
set_option maxRecDepth 20000 in
theorem dX5_face_62 : decode cX5_face 62 = .ok (.ldc 74, 2) := by decide +kernel
set_option maxRecDepth 20000 in
theorem dX5_face_64 : decode cX5_face 64 = .ok (.ireturn, 1) := by decide +kernel
set_option maxRecDepth 20000 in
theorem dX5_face_65 : decode cX5_face 65 = .ok (.aload_n 0, 1) := by decide +kernel
set_option maxRecDepth 20000 in
theorem dX5_face_66 : decode cX5_face 66 = .ok (.invokevirtual 116, 3) := by decide +kernel
set_option maxRecDepth 20000 in
theorem dX5_face_69 : decode cX5_face 69 = .ok (.aload_n 0, 1) := by decide +kernel
set_option maxRecDepth 20000 in
theorem dX5_face_70 : decode cX5_face 70 = .ok (.getfield 10, 3) := by decide +kernel
set_option maxRecDepth 20000 in
theorem dX5_face_73 : decode cX5_face 73 = .ok (.aload_n 0, 1) := by decide +kernel
set_option maxRecDepth 20000 in
theorem dX5_face_74 : decode cX5_face 74 = .ok (.getfield 29, 3) := by decide +kernel
set_option maxRecDepth 20000 in
theorem dX5_face_77 : decode cX5_face 77 = .ok (.iload_n 1, 1) := by decide +kernel
set_option maxRecDepth 20000 in
theorem dX5_face_78 : decode cX5_face 78 = .ok (.invokevirtual 136, 3) := by decide +kernel
set_option maxRecDepth 20000 in
theorem dX5_face_81 : decode cX5_face 81 = .ok (.aload_n 0, 1) := by decide +kernel
set_option maxRecDepth 20000 in
theorem dX5_face_82 : decode cX5_face 82 = .ok (.getfield 10, 3) := by decide +kernel
set_option maxRecDepth 20000 in
theorem dX5_face_85 : decode cX5_face 85 = .ok (.iconst 2, 1) := by decide +kernel
set_option maxRecDepth 20000 in
theorem dX5_face_86 : decode cX5_face 86 = .ok (.invokevirtual 97, 3) := by decide +kernel
set_option maxRecDepth 20000 in
theorem dX5_face_89 : decode cX5_face 89 = .ok (.iconst 1, 1) := by decide +kernel
set_option maxRecDepth 20000 in
theorem dX5_face_90 : decode cX5_face 90 = .ok (.isub, 1) := by decide +kernel
set_option maxRecDepth 20000 in
theorem dX5_face_91 : decode cX5_face 91 = .ok (.ireturn, 1) := by decide +kernel
set_option maxRecDepth 20000 in
theorem dX5_drop_0 : decode cX5_drop 0 = .ok (.aload_n 0, 1) := by decide +kernel
set_option maxRecDepth 20000 in
theorem dX5_drop_1 : decode cX5_drop 1 = .ok (.iload_n 1, 1) := by decide +kernel
set_option maxRecDepth 20000 in
theorem dX5_drop_2 : decode cX5_drop 2 = .ok (.iload_n 2, 1) := by decide +kernel
set_option maxRecDepth 20000 in
theorem dX5_drop_3 : decode cX5_drop 3 = .ok (.invokevirtual 106, 3) := by decide +kernel
set_option maxRecDepth 20000 in
theorem dX5_drop_6 : decode cX5_drop 6 = .ok (.ifCond .ne 6, 3) := by decide +kernel
set_option maxRecDepth 20000 in
theorem dX5_drop_9 : decode cX5_drop 9 = .ok (.ldc 65, 2) := by decide +kernel
set_option maxRecDepth 20000 in
theorem dX5_drop_11 : decode cX5_drop 11 = .ok (.ireturn, 1) := by decide +kernel
set_option maxRecDepth 20000 in
theorem dX5_drop_12 : decode cX5_drop 12 = .ok (.iload_n 1, 1) := by decide +kernel
set_option maxRecDepth 20000 in
theorem dX5_drop_13 : decode cX5_drop 13 = .ok (.iconst 1, 1) := by decide +kernel
set_option maxRecDepth 20000 in
theorem dX5_drop_14 : decode cX5_drop 14 = .ok (.if_icmp .ne 17, 3) := by decide +kernel
set_option maxRecDepth 20000 in
theorem dX5_drop_17 : decode cX5_drop 17 = .ok (.aload_n 0, 1) := by decide +kernel
set_option maxRecDepth 20000 in
theorem dX5_drop_18 : decode cX5_drop 18 = .ok (.getfield 10, 3) := by decide +kernel
set_option maxRecDepth 20000 in
theorem dX5_drop_21 : decode cX5_drop 21 = .ok (.iload_n 2, 1) := by decide +kernel
set_option maxRecDepth 20000 in
theorem dX5_drop_22 : decode cX5_drop 22 = .ok (.invokevirtual 140, 3) := by decide +kernel
set_option maxRecDepth 20000 in
theorem dX5_drop_25 : decode cX5_drop 25 = .ok (.ifCond .eq 6, 3) := by decide +kernel
set_option maxRecDepth 20000 in
theorem dX5_drop_28 : decode cX5_drop 28 = .ok (.ldc 105, 2) := by decide +kernel
set_option maxRecDepth 20000 in
theorem dX5_drop_30 : decode cX5_drop 30 = .ok (.ireturn, 1) := by decide +kernel
set_option maxRecDepth 20000 in
theorem dX5_drop_31 : decode cX5_drop 31 = .ok (.aload_n 0, 1) := by decide +kernel
set_option maxRecDepth 20000 in
theorem dX5_drop_32 : decode cX5_drop 32 = .ok (.invokevirtual 116, 3) := by decide +kernel
set_option maxRecDepth 20000 in
theorem dX5_drop_35 : decode cX5_drop 35 = .ok (.iload_n 1, 1) := by decide +kernel
set_option maxRecDepth 20000 in
theorem dX5_drop_36 : decode cX5_drop 36 = .ok (.iconst 1, 1) := by decide +kernel
set_option maxRecDepth 20000 in
theorem dX5_drop_37 : decode cX5_drop 37 = .ok (.if_icmp .ne 14, 3) := by decide +kernel
set_option maxRecDepth 20000 in
theorem dX5_drop_40 : decode cX5_drop 40 = .ok (.aload_n 0, 1) := by decide +kernel
set_option maxRecDepth 20000 in
theorem dX5_drop_41 : decode cX5_drop 41 = .ok (.getfield 10, 3) := by decide +kernel
set_option maxRecDepth 20000 in
theorem dX5_drop_44 : decode cX5_drop 44 = .ok (.iload_n 2, 1) := by decide +kernel
set_option maxRecDepth 20000 in
theorem dX5_drop_45 : decode cX5_drop 45 = .ok (.invokevirtual 143, 3) := by decide +kernel
set_option maxRecDepth 20000 in
theorem dX5_drop_48 : decode cX5_drop 48 = .ok (.goto 11, 3) := by decide +kernel
set_option maxRecDepth 20000 in
theorem dX5_drop_51 : decode cX5_drop 51 = .ok (.aload_n 0, 1) := by decide +kernel
set_option maxRecDepth 20000 in
theorem dX5_drop_52 : decode cX5_drop 52 = .ok (.getfield 10, 3) := by decide +kernel
set_option maxRecDepth 20000 in
theorem dX5_drop_55 : decode cX5_drop 55 = .ok (.iload_n 2, 1) := by decide +kernel
set_option maxRecDepth 20000 in
theorem dX5_drop_56 : decode cX5_drop 56 = .ok (.invokevirtual 147, 3) := by decide +kernel
set_option maxRecDepth 20000 in
theorem dX5_drop_59 : decode cX5_drop 59 = .ok (.aload_n 0, 1) := by decide +kernel
set_option maxRecDepth 20000 in
theorem dX5_drop_60 : decode cX5_drop 60 = .ok (.getfield 10, 3) := by decide +kernel
set_option maxRecDepth 20000 in
theorem dX5_drop_63 : decode cX5_drop 63 = .ok (.iload_n 1, 1) := by decide +kernel
set_option maxRecDepth 20000 in
theorem dX5_drop_64 : decode cX5_drop 64 = .ok (.invokevirtual 97, 3) := by decide +kernel
set_option maxRecDepth 20000 in
theorem dX5_drop_67 : decode cX5_drop 67 = .ok (.ireturn, 1) := by decide +kernel
set_option maxRecDepth 20000 in
theorem dX5_put_0 : decode cX5_put 0 = .ok (.iload_n 1, 1) := by decide +kernel
set_option maxRecDepth 20000 in
theorem dX5_put_1 : decode cX5_put 1 = .ok (.invokestatic 150, 3) := by decide +kernel
set_option maxRecDepth 20000 in
theorem dX5_put_4 : decode cX5_put 4 = .ok (.ifCond .eq 22, 3) := by decide +kernel
set_option maxRecDepth 20000 in
theorem dX5_put_7 : decode cX5_put 7 = .ok (.aload_n 0, 1) := by decide +kernel
set_option maxRecDepth 20000 in
theorem dX5_put_8 : decode cX5_put 8 = .ok (.getfield 10, 3) := by decide +kernel
set_option maxRecDepth 20000 in
theorem dX5_put_11 : decode cX5_put 11 = .ok (.iconst 1, 1) := by decide +kernel
set_option maxRecDepth 20000 in
theorem dX5_put_12 : decode cX5_put 12 = .ok (.iload_n 2, 1) := by decide +kernel
set_option maxRecDepth 20000 in
theorem dX5_put_13 : decode cX5_put 13 = .ok (.invokevirtual 127, 3) := by decide +kernel
set_option maxRecDepth 20000 in
theorem dX5_put_16 : decode cX5_put 16 = .ok (.ifCond .eq 10, 3) := by decide +kernel
set_option maxRecDepth 20000 in
theorem dX5_put_19 : decode cX5_put 19 = .ok (.iload_n 3, 1) := by decide +kernel
set_option maxRecDepth 20000 in
theorem dX5_put_20 : decode cX5_put 20 = .ok (.invokestatic 153, 3) := by decide +kernel
set_option maxRecDepth 20000 in
theorem dX5_put_23 : decode cX5_put 23 = .ok (.ifCond .ne 6, 3) := by decide +kernel
set_option maxRecDepth 20000 in
theorem dX5_put_26 : decode cX5_put 26 = .ok (.ldc 65, 2) := by decide +kernel
set_option maxRecDepth 20000 in
theorem dX5_put_28 : decode cX5_put 28 = .ok (.ireturn, 1) := by decide +kernel
set_option maxRecDepth 20000 in
theorem dX5_put_29 : decode cX5_put 29 = .ok (.aload_n 0, 1) := by decide +kernel
set_option maxRecDepth 20000 in
theorem dX5_put_30 : decode cX5_put 30 = .ok (.getfield 10, 3) := by decide +kernel
set_option maxRecDepth 20000 in
theorem dX5_put_33 : decode cX5_put 33 = .ok (.iload_n 1, 1) := by decide +kernel
set_option maxRecDepth 20000 in
theorem dX5_put_34 : decode cX5_put 34 = .ok (.iload_n 2, 1) := by decide +kernel
set_option maxRecDepth 20000 in
theorem dX5_put_35 : decode cX5_put 35 = .ok (.invokevirtual 156, 3) := by decide +kernel
set_option maxRecDepth 20000 in
theorem dX5_put_38 : decode cX5_put 38 = .ok (.istore 4, 2) := by decide +kernel
set_option maxRecDepth 20000 in
theorem dX5_put_40 : decode cX5_put 40 = .ok (.aload_n 0, 1) := by decide +kernel
set_option maxRecDepth 20000 in
theorem dX5_put_41 : decode cX5_put 41 = .ok (.invokevirtual 116, 3) := by decide +kernel
set_option maxRecDepth 20000 in
theorem dX5_put_44 : decode cX5_put 44 = .ok (.aload_n 0, 1) := by decide +kernel
set_option maxRecDepth 20000 in
theorem dX5_put_45 : decode cX5_put 45 = .ok (.getfield 10, 3) := by decide +kernel
set_option maxRecDepth 20000 in
theorem dX5_put_48 : decode cX5_put 48 = .ok (.iload_n 1, 1) := by decide +kernel
set_option maxRecDepth 20000 in
theorem dX5_put_49 : decode cX5_put 49 = .ok (.iload_n 2, 1) := by decide +kernel
set_option maxRecDepth 20000 in
theorem dX5_put_50 : decode cX5_put 50 = .ok (.iload_n 3, 1) := by decide +kernel
set_option maxRecDepth 20000 in
theorem dX5_put_51 : decode cX5_put 51 = .ok (.invokevirtual 159, 3) := by decide +kernel
set_option maxRecDepth 20000 in
theorem dX5_put_54 : decode cX5_put 54 = .ok (.iload 4, 2) := by decide +kernel
set_option maxRecDepth 20000 in
theorem dX5_put_56 : decode cX5_put 56 = .ok (.ireturn, 1) := by decide +kernel
set_option maxRecDepth 20000 in
theorem dX5_bound_0 : decode cX5_bound 0 = .ok (.iload_n 1, 1) := by decide +kernel
set_option maxRecDepth 20000 in
theorem dX5_bound_1 : decode cX5_bound 1 = .ok (.invokestatic 150, 3) := by decide +kernel
set_option maxRecDepth 20000 in
theorem dX5_bound_4 : decode cX5_bound 4 = .ok (.ifCond .eq 22, 3) := by decide +kernel
set_option maxRecDepth 20000 in
theorem dX5_bound_7 : decode cX5_bound 7 = .ok (.aload_n 0, 1) := by decide +kernel
set_option maxRecDepth 20000 in
theorem dX5_bound_8 : decode cX5_bound 8 = .ok (.getfield 10, 3) := by decide +kernel
set_option maxRecDepth 20000 in
theorem dX5_bound_11 : decode cX5_bound 11 = .ok (.iconst 2, 1) := by decide +kernel
set_option maxRecDepth 20000 in
theorem dX5_bound_12 : decode cX5_bound 12 = .ok (.iload_n 2, 1) := by decide +kernel
set_option maxRecDepth 20000 in
theorem dX5_bound_13 : decode cX5_bound 13 = .ok (.invokevirtual 127, 3) := by decide +kernel
set_option maxRecDepth 20000 in
theorem dX5_bound_16 : decode cX5_bound 16 = .ok (.ifCond .eq 10, 3) := by decide +kernel
set_option maxRecDepth 20000 in
theorem dX5_bound_19 : decode cX5_bound 19 = .ok (.iload_n 3, 1) := by decide +kernel
set_option maxRecDepth 20000 in
theorem dX5_bound_20 : decode cX5_bound 20 = .ok (.invokestatic 153, 3) := by decide +kernel
set_option maxRecDepth 20000 in
theorem dX5_bound_23 : decode cX5_bound 23 = .ok (.ifCond .ne 6, 3) := by decide +kernel
set_option maxRecDepth 20000 in
theorem dX5_bound_26 : decode cX5_bound 26 = .ok (.ldc 65, 2) := by decide +kernel
set_option maxRecDepth 20000 in
theorem dX5_bound_28 : decode cX5_bound 28 = .ok (.ireturn, 1) := by decide +kernel
set_option maxRecDepth 20000 in
theorem dX5_bound_29 : decode cX5_bound 29 = .ok (.iconst 0, 1) := by decide +kernel
set_option maxRecDepth 20000 in
theorem dX5_bound_30 : decode cX5_bound 30 = .ok (.istore 4, 2) := by decide +kernel
set_option maxRecDepth 20000 in
theorem dX5_bound_32 : decode cX5_bound 32 = .ok (.iload 4, 2) := by decide +kernel
set_option maxRecDepth 20000 in
theorem dX5_bound_34 : decode cX5_bound 34 = .ok (.aload_n 0, 1) := by decide +kernel
set_option maxRecDepth 20000 in
theorem dX5_bound_35 : decode cX5_bound 35 = .ok (.getfield 10, 3) := by decide +kernel
set_option maxRecDepth 20000 in
theorem dX5_bound_38 : decode cX5_bound 38 = .ok (.iconst 1, 1) := by decide +kernel
set_option maxRecDepth 20000 in
theorem dX5_bound_39 : decode cX5_bound 39 = .ok (.invokevirtual 97, 3) := by decide +kernel
set_option maxRecDepth 20000 in
theorem dX5_bound_42 : decode cX5_bound 42 = .ok (.if_icmp .ge 42, 3) := by decide +kernel
set_option maxRecDepth 20000 in
theorem dX5_bound_45 : decode cX5_bound 45 = .ok (.aload_n 0, 1) := by decide +kernel
set_option maxRecDepth 20000 in
theorem dX5_bound_46 : decode cX5_bound 46 = .ok (.getfield 10, 3) := by decide +kernel
set_option maxRecDepth 20000 in
theorem dX5_bound_49 : decode cX5_bound 49 = .ok (.iload_n 1, 1) := by decide +kernel
set_option maxRecDepth 20000 in
theorem dX5_bound_50 : decode cX5_bound 50 = .ok (.iload 4, 2) := by decide +kernel
set_option maxRecDepth 20000 in
theorem dX5_bound_52 : decode cX5_bound 52 = .ok (.invokevirtual 156, 3) := by decide +kernel
set_option maxRecDepth 20000 in
theorem dX5_bound_55 : decode cX5_bound 55 = .ok (.iload_n 3, 1) := by decide +kernel
set_option maxRecDepth 20000 in
theorem dX5_bound_56 : decode cX5_bound 56 = .ok (.aload_n 0, 1) := by decide +kernel
set_option maxRecDepth 20000 in
theorem dX5_bound_57 : decode cX5_bound 57 = .ok (.getfield 10, 3) := by decide +kernel
set_option maxRecDepth 20000 in
theorem dX5_bound_60 : decode cX5_bound 60 = .ok (.iconst 2, 1) := by decide +kernel
set_option maxRecDepth 20000 in
theorem dX5_bound_61 : decode cX5_bound 61 = .ok (.iload 4, 2) := by decide +kernel
set_option maxRecDepth 20000 in
theorem dX5_bound_63 : decode cX5_bound 63 = .ok (.iload_n 2, 1) := by decide +kernel
set_option maxRecDepth 20000 in
theorem dX5_bound_64 : decode cX5_bound 64 = .ok (.invokevirtual 162, 3) := by decide +kernel
set_option maxRecDepth 20000 in
theorem dX5_bound_67 : decode cX5_bound 67 = .ok (.imul, 1) := by decide +kernel
set_option maxRecDepth 20000 in
theorem dX5_bound_68 : decode cX5_bound 68 = .ok (.iadd, 1) := by decide +kernel
set_option maxRecDepth 20000 in
theorem dX5_bound_69 : decode cX5_bound 69 = .ok (.invokestatic 153, 3) := by decide +kernel
set_option maxRecDepth 20000 in
theorem dX5_bound_72 : decode cX5_bound 72 = .ok (.ifCond .ne 6, 3) := by decide +kernel
set_option maxRecDepth 20000 in
theorem dX5_bound_75 : decode cX5_bound 75 = .ok (.ldc 74, 2) := by decide +kernel
set_option maxRecDepth 20000 in
theorem dX5_bound_77 : decode cX5_bound 77 = .ok (.ireturn, 1) := by decide +kernel
set_option maxRecDepth 20000 in
theorem dX5_bound_78 : decode cX5_bound 78 = .ok (.iinc 4 1, 3) := by decide +kernel
set_option maxRecDepth 20000 in
theorem dX5_bound_81 : decode cX5_bound 81 = .ok (.goto (-49), 3) := by decide +kernel
set_option maxRecDepth 20000 in
theorem dX5_bound_84 : decode cX5_bound 84 = .ok (.aload_n 0, 1) := by decide +kernel
set_option maxRecDepth 20000 in
theorem dX5_bound_85 : decode cX5_bound 85 = .ok (.invokevirtual 116, 3) := by decide +kernel
set_option maxRecDepth 20000 in
theorem dX5_bound_88 : decode cX5_bound 88 = .ok (.iconst 0, 1) := by decide +kernel
set_option maxRecDepth 20000 in
theorem dX5_bound_89 : decode cX5_bound 89 = .ok (.istore 4, 2) := by decide +kernel
set_option maxRecDepth 20000 in
theorem dX5_bound_91 : decode cX5_bound 91 = .ok (.iload 4, 2) := by decide +kernel
set_option maxRecDepth 20000 in
theorem dX5_bound_93 : decode cX5_bound 93 = .ok (.aload_n 0, 1) := by decide +kernel
set_option maxRecDepth 20000 in
theorem dX5_bound_94 : decode cX5_bound 94 = .ok (.getfield 10, 3) := by decide +kernel
set_option maxRecDepth 20000 in
theorem dX5_bound_97 : decode cX5_bound 97 = .ok (.iconst 1, 1) := by decide +kernel
set_option maxRecDepth 20000 in
theorem dX5_bound_98 : decode cX5_bound 98 = .ok (.invokevirtual 97, 3) := by decide +kernel
set_option maxRecDepth 20000 in
theorem dX5_bound_101 : decode cX5_bound 101 = .ok (.if_icmp .ge 43, 3) := by decide +kernel
set_option maxRecDepth 20000 in
theorem dX5_bound_104 : decode cX5_bound 104 = .ok (.aload_n 0, 1) := by decide +kernel
set_option maxRecDepth 20000 in
theorem dX5_bound_105 : decode cX5_bound 105 = .ok (.getfield 10, 3) := by decide +kernel
set_option maxRecDepth 20000 in
theorem dX5_bound_108 : decode cX5_bound 108 = .ok (.iload_n 1, 1) := by decide +kernel
set_option maxRecDepth 20000 in
theorem dX5_bound_109 : decode cX5_bound 109 = .ok (.iload 4, 2) := by decide +kernel
set_option maxRecDepth 20000 in
theorem dX5_bound_111 : decode cX5_bound 111 = .ok (.aload_n 0, 1) := by decide +kernel
set_option maxRecDepth 20000 in
theorem dX5_bound_112 : decode cX5_bound 112 = .ok (.getfield 10, 3) := by decide +kernel
set_option maxRecDepth 20000 in
theorem dX5_bound_115 : decode cX5_bound 115 = .ok (.iload_n 1, 1) := by decide +kernel
set_option maxRecDepth 20000 in
theorem dX5_bound_116 : decode cX5_bound 116 = .ok (.iload 4, 2) := by decide +kernel
set_option maxRecDepth 20000 in
theorem dX5_bound_118 : decode cX5_bound 118 = .ok (.invokevirtual 156, 3) := by decide +kernel
set_option maxRecDepth 20000 in
theorem dX5_bound_121 : decode cX5_bound 121 = .ok (.iload_n 3, 1) := by decide +kernel
set_option maxRecDepth 20000 in
theorem dX5_bound_122 : decode cX5_bound 122 = .ok (.aload_n 0, 1) := by decide +kernel
set_option maxRecDepth 20000 in
theorem dX5_bound_123 : decode cX5_bound 123 = .ok (.getfield 10, 3) := by decide +kernel
set_option maxRecDepth 20000 in
theorem dX5_bound_126 : decode cX5_bound 126 = .ok (.iconst 2, 1) := by decide +kernel
set_option maxRecDepth 20000 in
theorem dX5_bound_127 : decode cX5_bound 127 = .ok (.iload 4, 2) := by decide +kernel
set_option maxRecDepth 20000 in
theorem dX5_bound_129 : decode cX5_bound 129 = .ok (.iload_n 2, 1) := by decide +kernel
set_option maxRecDepth 20000 in
theorem dX5_bound_130 : decode cX5_bound 130 = .ok (.invokevirtual 162, 3) := by decide +kernel
set_option maxRecDepth 20000 in
theorem dX5_bound_133 : decode cX5_bound 133 = .ok (.imul, 1) := by decide +kernel
set_option maxRecDepth 20000 in
theorem dX5_bound_134 : decode cX5_bound 134 = .ok (.iadd, 1) := by decide +kernel
set_option maxRecDepth 20000 in
theorem dX5_bound_135 : decode cX5_bound 135 = .ok (.invokevirtual 159, 3) := by decide +kernel
set_option maxRecDepth 20000 in
theorem dX5_bound_138 : decode cX5_bound 138 = .ok (.iinc 4 1, 3) := by decide +kernel
set_option maxRecDepth 20000 in
theorem dX5_bound_141 : decode cX5_bound 141 = .ok (.goto (-50), 3) := by decide +kernel
set_option maxRecDepth 20000 in
theorem dX5_bound_144 : decode cX5_bound 144 = .ok (.aload_n 0, 1) := by decide +kernel
set_option maxRecDepth 20000 in
theorem dX5_bound_145 : decode cX5_bound 145 = .ok (.getfield 10, 3) := by decide +kernel
set_option maxRecDepth 20000 in
theorem dX5_bound_148 : decode cX5_bound 148 = .ok (.iload_n 1, 1) := by decide +kernel
set_option maxRecDepth 20000 in
theorem dX5_bound_149 : decode cX5_bound 149 = .ok (.invokevirtual 166, 3) := by decide +kernel
set_option maxRecDepth 20000 in
theorem dX5_bound_152 : decode cX5_bound 152 = .ok (.ireturn, 1) := by decide +kernel
set_option maxRecDepth 20000 in
theorem dX5_drawn_0 : decode cX5_drawn 0 = .ok (.aload_n 0, 1) := by decide +kernel
set_option maxRecDepth 20000 in
theorem dX5_drawn_1 : decode cX5_drawn 1 = .ok (.getfield 10, 3) := by decide +kernel
set_option maxRecDepth 20000 in
theorem dX5_drawn_4 : decode cX5_drawn 4 = .ok (.invokevirtual 123, 3) := by decide +kernel
set_option maxRecDepth 20000 in
theorem dX5_drawn_7 : decode cX5_drawn 7 = .ok (.ifCond .ne 6, 3) := by decide +kernel
set_option maxRecDepth 20000 in
theorem dX5_drawn_10 : decode cX5_drawn 10 = .ok (.ldc 105, 2) := by decide +kernel
set_option maxRecDepth 20000 in
theorem dX5_drawn_12 : decode cX5_drawn 12 = .ok (.ireturn, 1) := by decide +kernel
set_option maxRecDepth 20000 in
theorem dX5_drawn_13 : decode cX5_drawn 13 = .ok (.iload_n 1, 1) := by decide +kernel
set_option maxRecDepth 20000 in
theorem dX5_drawn_14 : decode cX5_drawn 14 = .ok (.invokestatic 150, 3) := by decide +kernel
set_option maxRecDepth 20000 in
theorem dX5_drawn_17 : decode cX5_drawn 17 = .ok (.ifCond .eq 14, 3) := by decide +kernel
set_option maxRecDepth 20000 in
theorem dX5_drawn_20 : decode cX5_drawn 20 = .ok (.iload_n 2, 1) := by decide +kernel
set_option maxRecDepth 20000 in
theorem dX5_drawn_21 : decode cX5_drawn 21 = .ok (.iconst 1, 1) := by decide +kernel
set_option maxRecDepth 20000 in
theorem dX5_drawn_22 : decode cX5_drawn 22 = .ok (.if_icmp .lt 9, 3) := by decide +kernel
set_option maxRecDepth 20000 in
theorem dX5_drawn_25 : decode cX5_drawn 25 = .ok (.iload_n 2, 1) := by decide +kernel
set_option maxRecDepth 20000 in
theorem dX5_drawn_26 : decode cX5_drawn 26 = .ok (.ldc 169, 2) := by decide +kernel
set_option maxRecDepth 20000 in
theorem dX5_drawn_28 : decode cX5_drawn 28 = .ok (.if_icmp .le 6, 3) := by decide +kernel
set_option maxRecDepth 20000 in
theorem dX5_drawn_31 : decode cX5_drawn 31 = .ok (.ldc 65, 2) := by decide +kernel
set_option maxRecDepth 20000 in
theorem dX5_drawn_33 : decode cX5_drawn 33 = .ok (.ireturn, 1) := by decide +kernel
set_option maxRecDepth 20000 in
theorem dX5_drawn_34 : decode cX5_drawn 34 = .ok (.aload_n 0, 1) := by decide +kernel
set_option maxRecDepth 20000 in
theorem dX5_drawn_35 : decode cX5_drawn 35 = .ok (.invokevirtual 116, 3) := by decide +kernel
set_option maxRecDepth 20000 in
theorem dX5_drawn_38 : decode cX5_drawn 38 = .ok (.iload_n 2, 1) := by decide +kernel
set_option maxRecDepth 20000 in
theorem dX5_drawn_39 : decode cX5_drawn 39 = .ok (.i2l, 1) := by decide +kernel
set_option maxRecDepth 20000 in
theorem dX5_drawn_40 : decode cX5_drawn 40 = .ok (.lstore_n 3, 1) := by decide +kernel
set_option maxRecDepth 20000 in
theorem dX5_drawn_41 : decode cX5_drawn 41 = .ok (.iconst 0, 1) := by decide +kernel
set_option maxRecDepth 20000 in
theorem dX5_drawn_42 : decode cX5_drawn 42 = .ok (.istore 5, 2) := by decide +kernel
set_option maxRecDepth 20000 in
theorem dX5_drawn_44 : decode cX5_drawn 44 = .ok (.iload 5, 2) := by decide +kernel
set_option maxRecDepth 20000 in
theorem dX5_drawn_46 : decode cX5_drawn 46 = .ok (.aload_n 0, 1) := by decide +kernel
set_option maxRecDepth 20000 in
theorem dX5_drawn_47 : decode cX5_drawn 47 = .ok (.getfield 10, 3) := by decide +kernel
set_option maxRecDepth 20000 in
theorem dX5_drawn_50 : decode cX5_drawn 50 = .ok (.iconst 1, 1) := by decide +kernel
set_option maxRecDepth 20000 in
theorem dX5_drawn_51 : decode cX5_drawn 51 = .ok (.invokevirtual 97, 3) := by decide +kernel
set_option maxRecDepth 20000 in
theorem dX5_drawn_54 : decode cX5_drawn 54 = .ok (.if_icmp .ge 38, 3) := by decide +kernel
set_option maxRecDepth 20000 in
theorem dX5_drawn_57 : decode cX5_drawn 57 = .ok (.lload_n 3, 1) := by decide +kernel
set_option maxRecDepth 20000 in
theorem dX5_drawn_58 : decode cX5_drawn 58 = .ok (.ldc2_w 170, 3) := by decide +kernel
set_option maxRecDepth 20000 in
theorem dX5_drawn_61 : decode cX5_drawn 61 = .ok (.lmul, 1) := by decide +kernel
set_option maxRecDepth 20000 in
theorem dX5_drawn_62 : decode cX5_drawn 62 = .ok (.ldc2_w 172, 3) := by decide +kernel
set_option maxRecDepth 20000 in
theorem dX5_drawn_65 : decode cX5_drawn 65 = .ok (.lrem, 1) := by decide +kernel
set_option maxRecDepth 20000 in
theorem dX5_drawn_66 : decode cX5_drawn 66 = .ok (.lstore_n 3, 1) := by decide +kernel
set_option maxRecDepth 20000 in
theorem dX5_drawn_67 : decode cX5_drawn 67 = .ok (.aload_n 0, 1) := by decide +kernel
set_option maxRecDepth 20000 in
theorem dX5_drawn_68 : decode cX5_drawn 68 = .ok (.getfield 10, 3) := by decide +kernel
set_option maxRecDepth 20000 in
theorem dX5_drawn_71 : decode cX5_drawn 71 = .ok (.iload_n 1, 1) := by decide +kernel
set_option maxRecDepth 20000 in
theorem dX5_drawn_72 : decode cX5_drawn 72 = .ok (.iload 5, 2) := by decide +kernel
set_option maxRecDepth 20000 in
theorem dX5_drawn_74 : decode cX5_drawn 74 = .ok (.lload_n 3, 1) := by decide +kernel
set_option maxRecDepth 20000 in
theorem dX5_drawn_75 : decode cX5_drawn 75 = .ok (.ldc2_w 174, 3) := by decide +kernel
set_option maxRecDepth 20000 in
theorem dX5_drawn_78 : decode cX5_drawn 78 = .ok (.lrem, 1) := by decide +kernel
set_option maxRecDepth 20000 in
theorem dX5_drawn_79 : decode cX5_drawn 79 = .ok (.l2i, 1) := by decide +kernel
set_option maxRecDepth 20000 in
theorem dX5_drawn_80 : decode cX5_drawn 80 = .ok (.bipush 9, 2) := by decide +kernel
set_option maxRecDepth 20000 in
theorem dX5_drawn_82 : decode cX5_drawn 82 = .ok (.isub, 1) := by decide +kernel
set_option maxRecDepth 20000 in
theorem dX5_drawn_83 : decode cX5_drawn 83 = .ok (.invokevirtual 159, 3) := by decide +kernel
set_option maxRecDepth 20000 in
theorem dX5_drawn_86 : decode cX5_drawn 86 = .ok (.iinc 5 1, 3) := by decide +kernel
set_option maxRecDepth 20000 in
theorem dX5_drawn_89 : decode cX5_drawn 89 = .ok (.goto (-45), 3) := by decide +kernel
set_option maxRecDepth 20000 in
theorem dX5_drawn_92 : decode cX5_drawn 92 = .ok (.aload_n 0, 1) := by decide +kernel
set_option maxRecDepth 20000 in
theorem dX5_drawn_93 : decode cX5_drawn 93 = .ok (.getfield 10, 3) := by decide +kernel
set_option maxRecDepth 20000 in
theorem dX5_drawn_96 : decode cX5_drawn 96 = .ok (.iload_n 1, 1) := by decide +kernel
set_option maxRecDepth 20000 in
theorem dX5_drawn_97 : decode cX5_drawn 97 = .ok (.invokevirtual 166, 3) := by decide +kernel
set_option maxRecDepth 20000 in
theorem dX5_drawn_100 : decode cX5_drawn 100 = .ok (.ireturn, 1) := by decide +kernel
set_option maxRecDepth 20000 in
theorem dX5_cell_0 : decode cX5_cell 0 = .ok (.aload_n 0, 1) := by decide +kernel
set_option maxRecDepth 20000 in
theorem dX5_cell_1 : decode cX5_cell 1 = .ok (.iload_n 1, 1) := by decide +kernel
set_option maxRecDepth 20000 in
theorem dX5_cell_2 : decode cX5_cell 2 = .ok (.iload_n 2, 1) := by decide +kernel
set_option maxRecDepth 20000 in
theorem dX5_cell_3 : decode cX5_cell 3 = .ok (.invokevirtual 106, 3) := by decide +kernel
set_option maxRecDepth 20000 in
theorem dX5_cell_6 : decode cX5_cell 6 = .ok (.ifCond .ne 6, 3) := by decide +kernel
set_option maxRecDepth 20000 in
theorem dX5_cell_9 : decode cX5_cell 9 = .ok (.ldc 65, 2) := by decide +kernel
set_option maxRecDepth 20000 in
theorem dX5_cell_11 : decode cX5_cell 11 = .ok (.ireturn, 1) := by decide +kernel
set_option maxRecDepth 20000 in
theorem dX5_cell_12 : decode cX5_cell 12 = .ok (.iload_n 3, 1) := by decide +kernel
set_option maxRecDepth 20000 in
theorem dX5_cell_13 : decode cX5_cell 13 = .ok (.ifCond .ne 13, 3) := by decide +kernel
set_option maxRecDepth 20000 in
theorem dX5_cell_16 : decode cX5_cell 16 = .ok (.aload_n 0, 1) := by decide +kernel
set_option maxRecDepth 20000 in
theorem dX5_cell_17 : decode cX5_cell 17 = .ok (.getfield 10, 3) := by decide +kernel
set_option maxRecDepth 20000 in
theorem dX5_cell_20 : decode cX5_cell 20 = .ok (.iload_n 1, 1) := by decide +kernel
set_option maxRecDepth 20000 in
theorem dX5_cell_21 : decode cX5_cell 21 = .ok (.iload_n 2, 1) := by decide +kernel
set_option maxRecDepth 20000 in
theorem dX5_cell_22 : decode cX5_cell 22 = .ok (.invokevirtual 112, 3) := by decide +kernel
set_option maxRecDepth 20000 in
theorem dX5_cell_25 : decode cX5_cell 25 = .ok (.ireturn, 1) := by decide +kernel
set_option maxRecDepth 20000 in
theorem dX5_cell_26 : decode cX5_cell 26 = .ok (.iload_n 3, 1) := by decide +kernel
set_option maxRecDepth 20000 in
theorem dX5_cell_27 : decode cX5_cell 27 = .ok (.iconst 1, 1) := by decide +kernel
set_option maxRecDepth 20000 in
theorem dX5_cell_28 : decode cX5_cell 28 = .ok (.if_icmp .ne 28, 3) := by decide +kernel
set_option maxRecDepth 20000 in
theorem dX5_cell_31 : decode cX5_cell 31 = .ok (.iload_n 1, 1) := by decide +kernel
set_option maxRecDepth 20000 in
theorem dX5_cell_32 : decode cX5_cell 32 = .ok (.iconst 1, 1) := by decide +kernel
set_option maxRecDepth 20000 in
theorem dX5_cell_33 : decode cX5_cell 33 = .ok (.if_icmp .ne 14, 3) := by decide +kernel
set_option maxRecDepth 20000 in
theorem dX5_cell_36 : decode cX5_cell 36 = .ok (.aload_n 0, 1) := by decide +kernel
set_option maxRecDepth 20000 in
theorem dX5_cell_37 : decode cX5_cell 37 = .ok (.getfield 10, 3) := by decide +kernel
set_option maxRecDepth 20000 in
theorem dX5_cell_40 : decode cX5_cell 40 = .ok (.iload_n 2, 1) := by decide +kernel
set_option maxRecDepth 20000 in
theorem dX5_cell_41 : decode cX5_cell 41 = .ok (.invokevirtual 176, 3) := by decide +kernel
set_option maxRecDepth 20000 in
theorem dX5_cell_44 : decode cX5_cell 44 = .ok (.goto 11, 3) := by decide +kernel
set_option maxRecDepth 20000 in
theorem dX5_cell_47 : decode cX5_cell 47 = .ok (.aload_n 0, 1) := by decide +kernel
set_option maxRecDepth 20000 in
theorem dX5_cell_48 : decode cX5_cell 48 = .ok (.getfield 10, 3) := by decide +kernel
set_option maxRecDepth 20000 in
theorem dX5_cell_51 : decode cX5_cell 51 = .ok (.iload_n 2, 1) := by decide +kernel
set_option maxRecDepth 20000 in
theorem dX5_cell_52 : decode cX5_cell 52 = .ok (.invokevirtual 179, 3) := by decide +kernel
set_option maxRecDepth 20000 in
theorem dX5_cell_55 : decode cX5_cell 55 = .ok (.ireturn, 1) := by decide +kernel
set_option maxRecDepth 20000 in
theorem dX5_cell_56 : decode cX5_cell 56 = .ok (.iload_n 3, 1) := by decide +kernel
set_option maxRecDepth 20000 in
theorem dX5_cell_57 : decode cX5_cell 57 = .ok (.iconst 2, 1) := by decide +kernel
set_option maxRecDepth 20000 in
theorem dX5_cell_58 : decode cX5_cell 58 = .ok (.if_icmp .ne 36, 3) := by decide +kernel
set_option maxRecDepth 20000 in
theorem dX5_cell_61 : decode cX5_cell 61 = .ok (.iload_n 1, 1) := by decide +kernel
set_option maxRecDepth 20000 in
theorem dX5_cell_62 : decode cX5_cell 62 = .ok (.iconst 1, 1) := by decide +kernel
set_option maxRecDepth 20000 in
theorem dX5_cell_63 : decode cX5_cell 63 = .ok (.if_icmp .ne 14, 3) := by decide +kernel
set_option maxRecDepth 20000 in
theorem dX5_cell_66 : decode cX5_cell 66 = .ok (.aload_n 0, 1) := by decide +kernel
set_option maxRecDepth 20000 in
theorem dX5_cell_67 : decode cX5_cell 67 = .ok (.getfield 10, 3) := by decide +kernel
set_option maxRecDepth 20000 in
theorem dX5_cell_70 : decode cX5_cell 70 = .ok (.iload_n 2, 1) := by decide +kernel
set_option maxRecDepth 20000 in
theorem dX5_cell_71 : decode cX5_cell 71 = .ok (.invokevirtual 182, 3) := by decide +kernel
set_option maxRecDepth 20000 in
theorem dX5_cell_74 : decode cX5_cell 74 = .ok (.goto 19, 3) := by decide +kernel
set_option maxRecDepth 20000 in
theorem dX5_cell_77 : decode cX5_cell 77 = .ok (.aload_n 0, 1) := by decide +kernel
set_option maxRecDepth 20000 in
theorem dX5_cell_78 : decode cX5_cell 78 = .ok (.getfield 10, 3) := by decide +kernel
set_option maxRecDepth 20000 in
theorem dX5_cell_81 : decode cX5_cell 81 = .ok (.aload_n 0, 1) := by decide +kernel
set_option maxRecDepth 20000 in
theorem dX5_cell_82 : decode cX5_cell 82 = .ok (.getfield 10, 3) := by decide +kernel
set_option maxRecDepth 20000 in
theorem dX5_cell_85 : decode cX5_cell 85 = .ok (.iload_n 2, 1) := by decide +kernel
set_option maxRecDepth 20000 in
theorem dX5_cell_86 : decode cX5_cell 86 = .ok (.iconst 0, 1) := by decide +kernel
set_option maxRecDepth 20000 in
theorem dX5_cell_87 : decode cX5_cell 87 = .ok (.invokevirtual 185, 3) := by decide +kernel
set_option maxRecDepth 20000 in
theorem dX5_cell_90 : decode cX5_cell 90 = .ok (.invokevirtual 188, 3) := by decide +kernel
set_option maxRecDepth 20000 in
theorem dX5_cell_93 : decode cX5_cell 93 = .ok (.ireturn, 1) := by decide +kernel
set_option maxRecDepth 20000 in
theorem dX5_cell_94 : decode cX5_cell 94 = .ok (.iload_n 1, 1) := by decide +kernel
set_option maxRecDepth 20000 in
theorem dX5_cell_95 : decode cX5_cell 95 = .ok (.iconst 1, 1) := by decide +kernel
set_option maxRecDepth 20000 in
theorem dX5_cell_96 : decode cX5_cell 96 = .ok (.if_icmp .eq 15, 3) := by decide +kernel
set_option maxRecDepth 20000 in
theorem dX5_cell_99 : decode cX5_cell 99 = .ok (.iload_n 3, 1) := by decide +kernel
set_option maxRecDepth 20000 in
theorem dX5_cell_100 : decode cX5_cell 100 = .ok (.bipush 10, 2) := by decide +kernel
set_option maxRecDepth 20000 in
theorem dX5_cell_102 : decode cX5_cell 102 = .ok (.if_icmp .lt 9, 3) := by decide +kernel
set_option maxRecDepth 20000 in
theorem dX5_cell_105 : decode cX5_cell 105 = .ok (.iload_n 3, 1) := by decide +kernel
set_option maxRecDepth 20000 in
theorem dX5_cell_106 : decode cX5_cell 106 = .ok (.bipush 14, 2) := by decide +kernel
set_option maxRecDepth 20000 in
theorem dX5_cell_108 : decode cX5_cell 108 = .ok (.if_icmp .lt 6, 3) := by decide +kernel
set_option maxRecDepth 20000 in
theorem dX5_cell_111 : decode cX5_cell 111 = .ok (.ldc 65, 2) := by decide +kernel
set_option maxRecDepth 20000 in
theorem dX5_cell_113 : decode cX5_cell 113 = .ok (.ireturn, 1) := by decide +kernel
set_option maxRecDepth 20000 in
theorem dX5_cell_114 : decode cX5_cell 114 = .ok (.iload_n 3, 1) := by decide +kernel
set_option maxRecDepth 20000 in
theorem dX5_cell_115 : decode cX5_cell 115 = .ok (.bipush 10, 2) := by decide +kernel
set_option maxRecDepth 20000 in
theorem dX5_cell_117 : decode cX5_cell 117 = .ok (.isub, 1) := by decide +kernel
set_option maxRecDepth 20000 in
theorem dX5_cell_118 : decode cX5_cell 118 = .ok (.istore 4, 2) := by decide +kernel
set_option maxRecDepth 20000 in
theorem dX5_cell_120 : decode cX5_cell 120 = .ok (.iload 4, 2) := by decide +kernel
set_option maxRecDepth 20000 in
theorem dX5_cell_122 : decode cX5_cell 122 = .ok (.aload_n 0, 1) := by decide +kernel
set_option maxRecDepth 20000 in
theorem dX5_cell_123 : decode cX5_cell 123 = .ok (.getfield 10, 3) := by decide +kernel
set_option maxRecDepth 20000 in
theorem dX5_cell_126 : decode cX5_cell 126 = .ok (.iload_n 2, 1) := by decide +kernel
set_option maxRecDepth 20000 in
theorem dX5_cell_127 : decode cX5_cell 127 = .ok (.invokevirtual 179, 3) := by decide +kernel
set_option maxRecDepth 20000 in
theorem dX5_cell_130 : decode cX5_cell 130 = .ok (.if_icmp .ge 16, 3) := by decide +kernel
set_option maxRecDepth 20000 in
theorem dX5_cell_133 : decode cX5_cell 133 = .ok (.aload_n 0, 1) := by decide +kernel
set_option maxRecDepth 20000 in
theorem dX5_cell_134 : decode cX5_cell 134 = .ok (.getfield 10, 3) := by decide +kernel
set_option maxRecDepth 20000 in
theorem dX5_cell_137 : decode cX5_cell 137 = .ok (.iload_n 2, 1) := by decide +kernel
set_option maxRecDepth 20000 in
theorem dX5_cell_138 : decode cX5_cell 138 = .ok (.iload 4, 2) := by decide +kernel
set_option maxRecDepth 20000 in
theorem dX5_cell_140 : decode cX5_cell 140 = .ok (.invokevirtual 185, 3) := by decide +kernel
set_option maxRecDepth 20000 in
theorem dX5_cell_143 : decode cX5_cell 143 = .ok (.goto 5, 3) := by decide +kernel
set_option maxRecDepth 20000 in
theorem dX5_cell_146 : decode cX5_cell 146 = .ok (.ldc 191, 2) := by decide +kernel
set_option maxRecDepth 20000 in
theorem dX5_cell_148 : decode cX5_cell 148 = .ok (.ireturn, 1) := by decide +kernel
set_option maxRecDepth 20000 in
theorem dX5_as_0 : decode cX5_as 0 = .ok (.aload_n 0, 1) := by decide +kernel
set_option maxRecDepth 20000 in
theorem dX5_as_1 : decode cX5_as 1 = .ok (.getfield 10, 3) := by decide +kernel
set_option maxRecDepth 20000 in
theorem dX5_as_4 : decode cX5_as 4 = .ok (.iload_n 1, 1) := by decide +kernel
set_option maxRecDepth 20000 in
theorem dX5_as_5 : decode cX5_as 5 = .ok (.iload_n 2, 1) := by decide +kernel
set_option maxRecDepth 20000 in
theorem dX5_as_6 : decode cX5_as 6 = .ok (.invokevirtual 127, 3) := by decide +kernel
set_option maxRecDepth 20000 in
theorem dX5_as_9 : decode cX5_as 9 = .ok (.ifCond .eq 12, 3) := by decide +kernel
set_option maxRecDepth 20000 in
theorem dX5_as_12 : decode cX5_as 12 = .ok (.iload_n 3, 1) := by decide +kernel
set_option maxRecDepth 20000 in
theorem dX5_as_13 : decode cX5_as 13 = .ok (.ifCond .lt 8, 3) := by decide +kernel
set_option maxRecDepth 20000 in
theorem dX5_as_16 : decode cX5_as 16 = .ok (.iload_n 3, 1) := by decide +kernel
set_option maxRecDepth 20000 in
theorem dX5_as_17 : decode cX5_as 17 = .ok (.iconst 5, 1) := by decide +kernel
set_option maxRecDepth 20000 in
theorem dX5_as_18 : decode cX5_as 18 = .ok (.if_icmp .le 6, 3) := by decide +kernel
set_option maxRecDepth 20000 in
theorem dX5_as_21 : decode cX5_as 21 = .ok (.ldc 65, 2) := by decide +kernel
set_option maxRecDepth 20000 in
theorem dX5_as_23 : decode cX5_as 23 = .ok (.ireturn, 1) := by decide +kernel
set_option maxRecDepth 20000 in
theorem dX5_as_24 : decode cX5_as 24 = .ok (.aload_n 0, 1) := by decide +kernel
set_option maxRecDepth 20000 in
theorem dX5_as_25 : decode cX5_as 25 = .ok (.getfield 10, 3) := by decide +kernel
set_option maxRecDepth 20000 in
theorem dX5_as_28 : decode cX5_as 28 = .ok (.iload_n 1, 1) := by decide +kernel
set_option maxRecDepth 20000 in
theorem dX5_as_29 : decode cX5_as 29 = .ok (.iload_n 2, 1) := by decide +kernel
set_option maxRecDepth 20000 in
theorem dX5_as_30 : decode cX5_as 30 = .ok (.iload_n 3, 1) := by decide +kernel
set_option maxRecDepth 20000 in
theorem dX5_as_31 : decode cX5_as 31 = .ok (.invokevirtual 192, 3) := by decide +kernel
set_option maxRecDepth 20000 in
theorem dX5_as_34 : decode cX5_as 34 = .ok (.ifCond .eq 7, 3) := by decide +kernel
set_option maxRecDepth 20000 in
theorem dX5_as_37 : decode cX5_as 37 = .ok (.iload_n 2, 1) := by decide +kernel
set_option maxRecDepth 20000 in
theorem dX5_as_38 : decode cX5_as 38 = .ok (.goto 5, 3) := by decide +kernel
set_option maxRecDepth 20000 in
theorem dX5_as_41 : decode cX5_as 41 = .ok (.ldc 191, 2) := by decide +kernel
set_option maxRecDepth 20000 in
theorem dX5_as_43 : decode cX5_as 43 = .ok (.ireturn, 1) := by decide +kernel
set_option maxRecDepth 20000 in
theorem dX5_table_0 : decode cX5_table 0 = .ok (.iload_n 1, 1) := by decide +kernel
set_option maxRecDepth 20000 in
theorem dX5_table_1 : decode cX5_table 1 = .ok (.iconst 1, 1) := by decide +kernel
set_option maxRecDepth 20000 in
theorem dX5_table_2 : decode cX5_table 2 = .ok (.if_icmp .lt 34, 3) := by decide +kernel
set_option maxRecDepth 20000 in
theorem dX5_table_5 : decode cX5_table 5 = .ok (.iload_n 1, 1) := by decide +kernel
set_option maxRecDepth 20000 in
theorem dX5_table_6 : decode cX5_table 6 = .ok (.iconst 2, 1) := by decide +kernel
set_option maxRecDepth 20000 in
theorem dX5_table_7 : decode cX5_table 7 = .ok (.if_icmp .gt 29, 3) := by decide +kernel
set_option maxRecDepth 20000 in
theorem dX5_table_10 : decode cX5_table 10 = .ok (.aload_n 0, 1) := by decide +kernel
set_option maxRecDepth 20000 in
theorem dX5_table_11 : decode cX5_table 11 = .ok (.getfield 10, 3) := by decide +kernel
set_option maxRecDepth 20000 in
theorem dX5_table_14 : decode cX5_table 14 = .ok (.iload_n 1, 1) := by decide +kernel
set_option maxRecDepth 20000 in
theorem dX5_table_15 : decode cX5_table 15 = .ok (.iconst 1, 1) := by decide +kernel
set_option maxRecDepth 20000 in
theorem dX5_table_16 : decode cX5_table 16 = .ok (.isub, 1) := by decide +kernel
set_option maxRecDepth 20000 in
theorem dX5_table_17 : decode cX5_table 17 = .ok (.iload_n 2, 1) := by decide +kernel
set_option maxRecDepth 20000 in
theorem dX5_table_18 : decode cX5_table 18 = .ok (.invokevirtual 127, 3) := by decide +kernel
set_option maxRecDepth 20000 in
theorem dX5_table_21 : decode cX5_table 21 = .ok (.ifCond .eq 15, 3) := by decide +kernel
set_option maxRecDepth 20000 in
theorem dX5_table_24 : decode cX5_table 24 = .ok (.aload_n 0, 1) := by decide +kernel
set_option maxRecDepth 20000 in
theorem dX5_table_25 : decode cX5_table 25 = .ok (.getfield 10, 3) := by decide +kernel
set_option maxRecDepth 20000 in
theorem dX5_table_28 : decode cX5_table 28 = .ok (.iload_n 1, 1) := by decide +kernel
set_option maxRecDepth 20000 in
theorem dX5_table_29 : decode cX5_table 29 = .ok (.iload_n 3, 1) := by decide +kernel
set_option maxRecDepth 20000 in
theorem dX5_table_30 : decode cX5_table 30 = .ok (.invokevirtual 127, 3) := by decide +kernel
set_option maxRecDepth 20000 in
theorem dX5_table_33 : decode cX5_table 33 = .ok (.ifCond .ne 6, 3) := by decide +kernel
set_option maxRecDepth 20000 in
theorem dX5_table_36 : decode cX5_table 36 = .ok (.ldc 65, 2) := by decide +kernel
set_option maxRecDepth 20000 in
theorem dX5_table_38 : decode cX5_table 38 = .ok (.ireturn, 1) := by decide +kernel
set_option maxRecDepth 20000 in
theorem dX5_table_39 : decode cX5_table 39 = .ok (.aload_n 0, 1) := by decide +kernel
set_option maxRecDepth 20000 in
theorem dX5_table_40 : decode cX5_table 40 = .ok (.getfield 10, 3) := by decide +kernel
set_option maxRecDepth 20000 in
theorem dX5_table_43 : decode cX5_table 43 = .ok (.iload_n 1, 1) := by decide +kernel
set_option maxRecDepth 20000 in
theorem dX5_table_44 : decode cX5_table 44 = .ok (.iload_n 2, 1) := by decide +kernel
set_option maxRecDepth 20000 in
theorem dX5_table_45 : decode cX5_table 45 = .ok (.iload_n 3, 1) := by decide +kernel
set_option maxRecDepth 20000 in
theorem dX5_table_46 : decode cX5_table 46 = .ok (.invokevirtual 162, 3) := by decide +kernel
set_option maxRecDepth 20000 in
theorem dX5_table_49 : decode cX5_table 49 = .ok (.ireturn, 1) := by decide +kernel
set_option maxRecDepth 20000 in
theorem dX5_near_0 : decode cX5_near 0 = .ok (.iload_n 1, 1) := by decide +kernel
set_option maxRecDepth 20000 in
theorem dX5_near_1 : decode cX5_near 1 = .ok (.ifCond .lt 8, 3) := by decide +kernel
set_option maxRecDepth 20000 in
theorem dX5_near_4 : decode cX5_near 4 = .ok (.iload_n 1, 1) := by decide +kernel
set_option maxRecDepth 20000 in
theorem dX5_near_5 : decode cX5_near 5 = .ok (.iconst 2, 1) := by decide +kernel
set_option maxRecDepth 20000 in
theorem dX5_near_6 : decode cX5_near 6 = .ok (.if_icmp .le 6, 3) := by decide +kernel
set_option maxRecDepth 20000 in
theorem dX5_near_9 : decode cX5_near 9 = .ok (.ldc 65, 2) := by decide +kernel
set_option maxRecDepth 20000 in
theorem dX5_near_11 : decode cX5_near 11 = .ok (.ireturn, 1) := by decide +kernel
set_option maxRecDepth 20000 in
theorem dX5_near_12 : decode cX5_near 12 = .ok (.iload_n 1, 1) := by decide +kernel
set_option maxRecDepth 20000 in
theorem dX5_near_13 : decode cX5_near 13 = .ok (.ifCond .ne 7, 3) := by decide +kernel
set_option maxRecDepth 20000 in
theorem dX5_near_16 : decode cX5_near 16 = .ok (.iconst 0, 1) := by decide +kernel
set_option maxRecDepth 20000 in
theorem dX5_near_17 : decode cX5_near 17 = .ok (.goto 4, 3) := by decide +kernel
set_option maxRecDepth 20000 in
theorem dX5_near_20 : decode cX5_near 20 = .ok (.iconst 1, 1) := by decide +kernel
set_option maxRecDepth 20000 in
theorem dX5_near_21 : decode cX5_near 21 = .ok (.istore 4, 2) := by decide +kernel
