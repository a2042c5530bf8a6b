theorem dX0_init_0 : decode cX0_init 0 = .ok (.aload_n 0, 1) := by decide +kernel
theorem dX0_init_1 : decode cX0_init 1 = .ok (.invokespecial 1, 3) := by decide +kernel
theorem dX0_init_4 : decode cX0_init 4 = .ok (.aload_n 0, 1) := by decide +kernel
theorem dX0_init_5 : decode cX0_init 5 = .ok (.iconst 0, 1) := by decide +kernel
theorem dX0_init_6 : decode cX0_init 6 = .ok (.putfield 7, 3) := by decide +kernel
theorem dX0_init_9 : decode cX0_init 9 = .ok (.aload_n 0, 1) := by decide +kernel
theorem dX0_init_10 : decode cX0_init 10 = .ok (.iconst 0, 1) := by decide +kernel
theorem dX0_init_11 : decode cX0_init 11 = .ok (.putfield 13, 3) := by decide +kernel
theorem dX0_init_14 : decode cX0_init 14 = .ok (.aload_n 0, 1) := by decide +kernel
theorem dX0_init_15 : decode cX0_init 15 = .ok (.aconst_null, 1) := by decide +kernel
theorem dX0_init_16 : decode cX0_init 16 = .ok (.putfield 16, 3) := by decide +kernel
theorem dX0_init_19 : decode cX0_init 19 = .ok (.aload_n 0, 1) := by decide +kernel
theorem dX0_init_20 : decode cX0_init 20 = .ok (.iconst 0, 1) := by decide +kernel
theorem dX0_init_21 : decode cX0_init 21 = .ok (.putfield 20, 3) := by decide +kernel
theorem dX0_init_24 : decode cX0_init 24 = .ok (.aload_n 0, 1) := by decide +kernel
theorem dX0_init_25 : decode cX0_init 25 = .ok (.aconst_null, 1) := by decide +kernel
theorem dX0_init_26 : decode cX0_init 26 = .ok (.putfield 23, 3) := by decide +kernel
theorem dX0_init_29 : decode cX0_init 29 = .ok (.aload_n 0, 1) := by decide +kernel
theorem dX0_init_30 : decode cX0_init 30 = .ok (.iconst 0, 1) := by decide +kernel
theorem dX0_init_31 : decode cX0_init 31 = .ok (.putfield 26, 3) := by decide +kernel
theorem dX0_init_34 : decode cX0_init 34 = .ok (.aload_n 0, 1) := by decide +kernel
theorem dX0_init_35 : decode cX0_init 35 = .ok (.iload_n 1, 1) := by decide +kernel
theorem dX0_init_36 : decode cX0_init 36 = .ok (.putfield 29, 3) := by decide +kernel
theorem dX0_init_39 : decode cX0_init 39 = .ok (.aload_n 0, 1) := by decide +kernel
theorem dX0_init_40 : decode cX0_init 40 = .ok (.iload_n 2, 1) := by decide +kernel
theorem dX0_init_41 : decode cX0_init 41 = .ok (.putfield 32, 3) := by decide +kernel
theorem dX0_init_44 : decode cX0_init 44 = .ok (.aload_n 0, 1) := by decide +kernel
theorem dX0_init_45 : decode cX0_init 45 = .ok (.iload_n 3, 1) := by decide +kernel
theorem dX0_init_46 : decode cX0_init 46 = .ok (.putfield 35, 3) := by decide +kernel
theorem dX0_init_49 : decode cX0_init 49 = .ok (.return_, 1) := by decide +kernel
theorem dX0_giveBack_0 : decode cX0_giveBack 0 = .ok (.aload_n 0, 1) := by decide +kernel
theorem dX0_giveBack_1 : decode cX0_giveBack 1 = .ok (.dup, 1) := by decide +kernel
theorem dX0_giveBack_2 : decode cX0_giveBack 2 = .ok (.getfield 20, 3) := by decide +kernel
theorem dX0_giveBack_5 : decode cX0_giveBack 5 = .ok (.iconst 1, 1) := by decide +kernel
theorem dX0_giveBack_6 : decode cX0_giveBack 6 = .ok (.iadd, 1) := by decide +kernel
theorem dX0_giveBack_7 : decode cX0_giveBack 7 = .ok (.putfield 20, 3) := by decide +kernel
theorem dX0_giveBack_10 : decode cX0_giveBack 10 = .ok (.aload_n 0, 1) := by decide +kernel
theorem dX0_giveBack_11 : decode cX0_giveBack 11 = .ok (.aload_n 1, 1) := by decide +kernel
theorem dX0_giveBack_12 : decode cX0_giveBack 12 = .ok (.putfield 23, 3) := by decide +kernel
theorem dX0_giveBack_15 : decode cX0_giveBack 15 = .ok (.aload_n 0, 1) := by decide +kernel
theorem dX0_giveBack_16 : decode cX0_giveBack 16 = .ok (.iload_n 2, 1) := by decide +kernel
theorem dX0_giveBack_17 : decode cX0_giveBack 17 = .ok (.putfield 26, 3) := by decide +kernel
theorem dX0_giveBack_20 : decode cX0_giveBack 20 = .ok (.return_, 1) := by decide +kernel
theorem dX0_exchange_0 : decode cX0_exchange 0 = .ok (.aload_n 0, 1) := by decide +kernel
theorem dX0_exchange_1 : decode cX0_exchange 1 = .ok (.getfield 16, 3) := by decide +kernel
theorem dX0_exchange_4 : decode cX0_exchange 4 = .ok (.astore_n 2, 1) := by decide +kernel
theorem dX0_exchange_5 : decode cX0_exchange 5 = .ok (.aload_n 0, 1) := by decide +kernel
theorem dX0_exchange_6 : decode cX0_exchange 6 = .ok (.aload_n 1, 1) := by decide +kernel
theorem dX0_exchange_7 : decode cX0_exchange 7 = .ok (.putfield 16, 3) := by decide +kernel
theorem dX0_exchange_10 : decode cX0_exchange 10 = .ok (.aload_n 2, 1) := by decide +kernel
theorem dX0_exchange_11 : decode cX0_exchange 11 = .ok (.areturn, 1) := by decide +kernel
theorem dX1_init_0 : decode cX1_init 0 = .ok (.aload_n 0, 1) := by decide +kernel
theorem dX1_init_1 : decode cX1_init 1 = .ok (.invokespecial 3, 3) := by decide +kernel
theorem dX1_init_4 : decode cX1_init 4 = .ok (.aload_n 0, 1) := by decide +kernel
theorem dX1_init_5 : decode cX1_init 5 = .ok (.iload_n 1, 1) := by decide +kernel
theorem dX1_init_6 : decode cX1_init 6 = .ok (.putfield 9, 3) := by decide +kernel
theorem dX1_init_9 : decode cX1_init 9 = .ok (.aload_n 0, 1) := by decide +kernel
theorem dX1_init_10 : decode cX1_init 10 = .ok (.iload_n 2, 1) := by decide +kernel
theorem dX1_init_11 : decode cX1_init 11 = .ok (.putfield 15, 3) := by decide +kernel
theorem dX1_init_14 : decode cX1_init 14 = .ok (.return_, 1) := by decide +kernel
theorem dX1_isOf_0 : decode cX1_isOf 0 = .ok (.iload_n 1, 1) := by decide +kernel
theorem dX1_isOf_1 : decode cX1_isOf 1 = .ok (.tableswitch 163 5 13 #[51, 163, 163, 74, 163, 98, 131, 163, 155], 51) := by decide +kernel
theorem dX1_isOf_52 : decode cX1_isOf 52 = .ok (.aload_n 0, 1) := by decide +kernel
theorem dX1_isOf_53 : decode cX1_isOf 53 = .ok (.getfield 15, 3) := by decide +kernel
theorem dX1_isOf_56 : decode cX1_isOf 56 = .ok (.iconst 5, 1) := by decide +kernel
theorem dX1_isOf_57 : decode cX1_isOf 57 = .ok (.if_icmp .eq 12, 3) := by decide +kernel
theorem dX1_isOf_60 : decode cX1_isOf 60 = .ok (.aload_n 0, 1) := by decide +kernel
theorem dX1_isOf_61 : decode cX1_isOf 61 = .ok (.getfield 15, 3) := by decide +kernel
theorem dX1_isOf_64 : decode cX1_isOf 64 = .ok (.bipush 6, 2) := by decide +kernel
theorem dX1_isOf_66 : decode cX1_isOf 66 = .ok (.if_icmp .ne 7, 3) := by decide +kernel
theorem dX1_isOf_69 : decode cX1_isOf 69 = .ok (.iconst 1, 1) := by decide +kernel
theorem dX1_isOf_70 : decode cX1_isOf 70 = .ok (.goto 4, 3) := by decide +kernel
theorem dX1_isOf_73 : decode cX1_isOf 73 = .ok (.iconst 0, 1) := by decide +kernel
theorem dX1_isOf_74 : decode cX1_isOf 74 = .ok (.ireturn, 1) := by decide +kernel
theorem dX1_isOf_75 : decode cX1_isOf 75 = .ok (.aload_n 0, 1) := by decide +kernel
theorem dX1_isOf_76 : decode cX1_isOf 76 = .ok (.getfield 15, 3) := by decide +kernel
theorem dX1_isOf_79 : decode cX1_isOf 79 = .ok (.bipush 8, 2) := by decide +kernel
theorem dX1_isOf_81 : decode cX1_isOf 81 = .ok (.if_icmp .eq 12, 3) := by decide +kernel
theorem dX1_isOf_84 : decode cX1_isOf 84 = .ok (.aload_n 0, 1) := by decide +kernel
theorem dX1_isOf_85 : decode cX1_isOf 85 = .ok (.getfield 15, 3) := by decide +kernel
theorem dX1_isOf_88 : decode cX1_isOf 88 = .ok (.bipush 9, 2) := by decide +kernel
theorem dX1_isOf_90 : decode cX1_isOf 90 = .ok (.if_icmp .ne 7, 3) := by decide +kernel
theorem dX1_isOf_93 : decode cX1_isOf 93 = .ok (.iconst 1, 1) := by decide +kernel
theorem dX1_isOf_94 : decode cX1_isOf 94 = .ok (.goto 4, 3) := by decide +kernel
theorem dX1_isOf_97 : decode cX1_isOf 97 = .ok (.iconst 0, 1) := by decide +kernel
theorem dX1_isOf_98 : decode cX1_isOf 98 = .ok (.ireturn, 1) := by decide +kernel
theorem dX1_isOf_99 : decode cX1_isOf 99 = .ok (.aload_n 0, 1) := by decide +kernel
theorem dX1_isOf_100 : decode cX1_isOf 100 = .ok (.getfield 15, 3) := by decide +kernel
theorem dX1_isOf_103 : decode cX1_isOf 103 = .ok (.bipush 10, 2) := by decide +kernel
theorem dX1_isOf_105 : decode cX1_isOf 105 = .ok (.if_icmp .eq 21, 3) := by decide +kernel
theorem dX1_isOf_108 : decode cX1_isOf 108 = .ok (.aload_n 0, 1) := by decide +kernel
theorem dX1_isOf_109 : decode cX1_isOf 109 = .ok (.getfield 15, 3) := by decide +kernel
theorem dX1_isOf_112 : decode cX1_isOf 112 = .ok (.bipush 8, 2) := by decide +kernel
theorem dX1_isOf_114 : decode cX1_isOf 114 = .ok (.if_icmp .eq 12, 3) := by decide +kernel
theorem dX1_isOf_117 : decode cX1_isOf 117 = .ok (.aload_n 0, 1) := by decide +kernel
theorem dX1_isOf_118 : decode cX1_isOf 118 = .ok (.getfield 15, 3) := by decide +kernel
theorem dX1_isOf_121 : decode cX1_isOf 121 = .ok (.bipush 9, 2) := by decide +kernel
theorem dX1_isOf_123 : decode cX1_isOf 123 = .ok (.if_icmp .ne 7, 3) := by decide +kernel
theorem dX1_isOf_126 : decode cX1_isOf 126 = .ok (.iconst 1, 1) := by decide +kernel
theorem dX1_isOf_127 : decode cX1_isOf 127 = .ok (.goto 4, 3) := by decide +kernel
theorem dX1_isOf_130 : decode cX1_isOf 130 = .ok (.iconst 0, 1) := by decide +kernel
theorem dX1_isOf_131 : decode cX1_isOf 131 = .ok (.ireturn, 1) := by decide +kernel
theorem dX1_isOf_132 : decode cX1_isOf 132 = .ok (.aload_n 0, 1) := by decide +kernel
theorem dX1_isOf_133 : decode cX1_isOf 133 = .ok (.getfield 15, 3) := by decide +kernel
theorem dX1_isOf_136 : decode cX1_isOf 136 = .ok (.bipush 11, 2) := by decide +kernel
theorem dX1_isOf_138 : decode cX1_isOf 138 = .ok (.if_icmp .eq 12, 3) := by decide +kernel
theorem dX1_isOf_141 : decode cX1_isOf 141 = .ok (.aload_n 0, 1) := by decide +kernel
theorem dX1_isOf_142 : decode cX1_isOf 142 = .ok (.getfield 15, 3) := by decide +kernel
theorem dX1_isOf_145 : decode cX1_isOf 145 = .ok (.bipush 12, 2) := by decide +kernel
theorem dX1_isOf_147 : decode cX1_isOf 147 = .ok (.if_icmp .ne 7, 3) := by decide +kernel
theorem dX1_isOf_150 : decode cX1_isOf 150 = .ok (.iconst 1, 1) := by decide +kernel
theorem dX1_isOf_151 : decode cX1_isOf 151 = .ok (.goto 4, 3) := by decide +kernel
theorem dX1_isOf_154 : decode cX1_isOf 154 = .ok (.iconst 0, 1) := by decide +kernel
theorem dX1_isOf_155 : decode cX1_isOf 155 = .ok (.ireturn, 1) := by decide +kernel
theorem dX1_isOf_156 : decode cX1_isOf 156 = .ok (.aload_n 0, 1) := by decide +kernel
theorem dX1_isOf_157 : decode cX1_isOf 157 = .ok (.getfield 15, 3) := by decide +kernel
theorem dX1_isOf_160 : decode cX1_isOf 160 = .ok (.invokestatic 18, 3) := by decide +kernel
theorem dX1_isOf_163 : decode cX1_isOf 163 = .ok (.ireturn, 1) := by decide +kernel
theorem dX1_isOf_164 : decode cX1_isOf 164 = .ok (.aload_n 0, 1) := by decide +kernel
theorem dX1_isOf_165 : decode cX1_isOf 165 = .ok (.getfield 15, 3) := by decide +kernel
theorem dX1_isOf_168 : decode cX1_isOf 168 = .ok (.iload_n 1, 1) := by decide +kernel
theorem dX1_isOf_169 : decode cX1_isOf 169 = .ok (.if_icmp .ne 7, 3) := by decide +kernel
theorem dX1_isOf_172 : decode cX1_isOf 172 = .ok (.iconst 1, 1) := by decide +kernel
theorem dX1_isOf_173 : decode cX1_isOf 173 = .ok (.goto 4, 3) := by decide +kernel
theorem dX1_isOf_176 : decode cX1_isOf 176 = .ok (.iconst 0, 1) := by decide +kernel
theorem dX1_isOf_177 : decode cX1_isOf 177 = .ok (.ireturn, 1) := by decide +kernel
theorem dX2_init_0 : decode cX2_init 0 = .ok (.aload_n 0, 1) := by decide +kernel
theorem dX2_init_1 : decode cX2_init 1 = .ok (.iload_n 1, 1) := by decide +kernel
theorem dX2_init_2 : decode cX2_init 2 = .ok (.iload_n 2, 1) := by decide +kernel
theorem dX2_init_3 : decode cX2_init 3 = .ok (.invokespecial 3, 3) := by decide +kernel
theorem dX2_init_6 : decode cX2_init 6 = .ok (.aload_n 0, 1) := by decide +kernel
theorem dX2_init_7 : decode cX2_init 7 = .ok (.iload_n 3, 1) := by decide +kernel
theorem dX2_init_8 : decode cX2_init 8 = .ok (.newarray .long, 2) := by decide +kernel
theorem dX2_init_10 : decode cX2_init 10 = .ok (.putfield 9, 3) := by decide +kernel
theorem dX2_init_13 : decode cX2_init 13 = .ok (.return_, 1) := by decide +kernel
theorem dX2_hasPlace_0 : decode cX2_hasPlace 0 = .ok (.iload_n 1, 1) := by decide +kernel
theorem dX2_hasPlace_1 : decode cX2_hasPlace 1 = .ok (.ifCond .lt 16, 3) := by decide +kernel
theorem dX2_hasPlace_4 : decode cX2_hasPlace 4 = .ok (.iload_n 1, 1) := by decide +kernel
theorem dX2_hasPlace_5 : decode cX2_hasPlace 5 = .ok (.aload_n 0, 1) := by decide +kernel
theorem dX2_hasPlace_6 : decode cX2_hasPlace 6 = .ok (.getfield 9, 3) := by decide +kernel
theorem dX2_hasPlace_9 : decode cX2_hasPlace 9 = .ok (.arraylength, 1) := by decide +kernel
theorem dX2_hasPlace_10 : decode cX2_hasPlace 10 = .ok (.if_icmp .ge 7, 3) := by decide +kernel
theorem dX2_hasPlace_13 : decode cX2_hasPlace 13 = .ok (.iconst 1, 1) := by decide +kernel
theorem dX2_hasPlace_14 : decode cX2_hasPlace 14 = .ok (.goto 4, 3) := by decide +kernel
theorem dX2_hasPlace_17 : decode cX2_hasPlace 17 = .ok (.iconst 0, 1) := by decide +kernel
theorem dX2_hasPlace_18 : decode cX2_hasPlace 18 = .ok (.ireturn, 1) := by decide +kernel
theorem dX2_write_0 : decode cX2_write 0 = .ok (.aload_n 0, 1) := by decide +kernel
theorem dX2_write_1 : decode cX2_write 1 = .ok (.getfield 9, 3) := by decide +kernel
theorem dX2_write_4 : decode cX2_write 4 = .ok (.iload_n 1, 1) := by decide +kernel
theorem dX2_write_5 : decode cX2_write 5 = .ok (.aload_n 0, 1) := by decide +kernel
theorem dX2_write_6 : decode cX2_write 6 = .ok (.iload_n 2, 1) := by decide +kernel
theorem dX2_write_7 : decode cX2_write 7 = .ok (.i2l, 1) := by decide +kernel
theorem dX2_write_8 : decode cX2_write 8 = .ok (.invokevirtual 15, 3) := by decide +kernel
theorem dX2_write_11 : decode cX2_write 11 = .ok (.lastore, 1) := by decide +kernel
theorem dX2_write_12 : decode cX2_write 12 = .ok (.return_, 1) := by decide +kernel
theorem dX2_read_0 : decode cX2_read 0 = .ok (.ldc2_w 19, 3) := by decide +kernel
theorem dX2_read_3 : decode cX2_read 3 = .ok (.aload_n 0, 1) := by decide +kernel
theorem dX2_read_4 : decode cX2_read 4 = .ok (.getfield 9, 3) := by decide +kernel
theorem dX2_read_7 : decode cX2_read 7 = .ok (.iload_n 1, 1) := by decide +kernel
theorem dX2_read_8 : decode cX2_read 8 = .ok (.laload, 1) := by decide +kernel
theorem dX2_read_9 : decode cX2_read 9 = .ok (.ldc2_w 21, 3) := by decide +kernel
theorem dX2_read_12 : decode cX2_read 12 = .ok (.invokestatic 23, 3) := by decide +kernel
theorem dX2_read_15 : decode cX2_read 15 = .ok (.invokestatic 29, 3) := by decide +kernel
theorem dX2_read_18 : decode cX2_read 18 = .ok (.l2i, 1) := by decide +kernel
theorem dX2_read_19 : decode cX2_read 19 = .ok (.ireturn, 1) := by decide +kernel
theorem dX2_places_0 : decode cX2_places 0 = .ok (.aload_n 0, 1) := by decide +kernel
theorem dX2_places_1 : decode cX2_places 1 = .ok (.getfield 9, 3) := by decide +kernel
theorem dX2_places_4 : decode cX2_places 4 = .ok (.arraylength, 1) := by decide +kernel
theorem dX2_places_5 : decode cX2_places 5 = .ok (.ireturn, 1) := by decide +kernel
theorem dX2_turn_0 : decode cX2_turn 0 = .ok (.iconst 0, 1) := by decide +kernel
theorem dX2_turn_1 : decode cX2_turn 1 = .ok (.istore_n 1, 1) := by decide +kernel
theorem dX2_turn_2 : decode cX2_turn 2 = .ok (.aload_n 0, 1) := by decide +kernel
theorem dX2_turn_3 : decode cX2_turn 3 = .ok (.getfield 9, 3) := by decide +kernel
theorem dX2_turn_6 : decode cX2_turn 6 = .ok (.arraylength, 1) := by decide +kernel
theorem dX2_turn_7 : decode cX2_turn 7 = .ok (.iconst 1, 1) := by decide +kernel
theorem dX2_turn_8 : decode cX2_turn 8 = .ok (.isub, 1) := by decide +kernel
theorem dX2_turn_9 : decode cX2_turn 9 = .ok (.istore_n 2, 1) := by decide +kernel
theorem dX2_turn_10 : decode cX2_turn 10 = .ok (.iload_n 1, 1) := by decide +kernel
theorem dX2_turn_11 : decode cX2_turn 11 = .ok (.iload_n 2, 1) := by decide +kernel
theorem dX2_turn_12 : decode cX2_turn 12 = .ok (.if_icmp .ge 38, 3) := by decide +kernel
theorem dX2_turn_15 : decode cX2_turn 15 = .ok (.aload_n 0, 1) := by decide +kernel
theorem dX2_turn_16 : decode cX2_turn 16 = .ok (.getfield 9, 3) := by decide +kernel
theorem dX2_turn_19 : decode cX2_turn 19 = .ok (.iload_n 1, 1) := by decide +kernel
theorem dX2_turn_20 : decode cX2_turn 20 = .ok (.laload, 1) := by decide +kernel
theorem dX2_turn_21 : decode cX2_turn 21 = .ok (.lstore_n 3, 1) := by decide +kernel
theorem dX2_turn_22 : decode cX2_turn 22 = .ok (.aload_n 0, 1) := by decide +kernel
theorem dX2_turn_23 : decode cX2_turn 23 = .ok (.getfield 9, 3) := by decide +kernel
theorem dX2_turn_26 : decode cX2_turn 26 = .ok (.iload_n 1, 1) := by decide +kernel
theorem dX2_turn_27 : decode cX2_turn 27 = .ok (.aload_n 0, 1) := by decide +kernel
theorem dX2_turn_28 : decode cX2_turn 28 = .ok (.getfield 9, 3) := by decide +kernel
theorem dX2_turn_31 : decode cX2_turn 31 = .ok (.iload_n 2, 1) := by decide +kernel
theorem dX2_turn_32 : decode cX2_turn 32 = .ok (.laload, 1) := by decide +kernel
theorem dX2_turn_33 : decode cX2_turn 33 = .ok (.lastore, 1) := by decide +kernel
theorem dX2_turn_34 : decode cX2_turn 34 = .ok (.aload_n 0, 1) := by decide +kernel
theorem dX2_turn_35 : decode cX2_turn 35 = .ok (.getfield 9, 3) := by decide +kernel
theorem dX2_turn_38 : decode cX2_turn 38 = .ok (.iload_n 2, 1) := by decide +kernel
theorem dX2_turn_39 : decode cX2_turn 39 = .ok (.lload_n 3, 1) := by decide +kernel
theorem dX2_turn_40 : decode cX2_turn 40 = .ok (.lastore, 1) := by decide +kernel
theorem dX2_turn_41 : decode cX2_turn 41 = .ok (.iinc 1 1, 3) := by decide +kernel
theorem dX2_turn_44 : decode cX2_turn 44 = .ok (.iinc 2 (-1), 3) := by decide +kernel
theorem dX2_turn_47 : decode cX2_turn 47 = .ok (.goto (-37), 3) := by decide +kernel
theorem dX2_turn_50 : decode cX2_turn 50 = .ok (.return_, 1) := by decide +kernel
theorem dX2_grow_0 : decode cX2_grow 0 = .ok (.iconst 0, 1) := by decide +kernel
theorem dX2_grow_1 : decode cX2_grow 1 = .ok (.istore_n 2, 1) := by decide +kernel
theorem dX2_grow_2 : decode cX2_grow 2 = .ok (.iload_n 2, 1) := by decide +kernel
theorem dX2_grow_3 : decode cX2_grow 3 = .ok (.aload_n 0, 1) := by decide +kernel
theorem dX2_grow_4 : decode cX2_grow 4 = .ok (.getfield 9, 3) := by decide +kernel
theorem dX2_grow_7 : decode cX2_grow 7 = .ok (.arraylength, 1) := by decide +kernel
theorem dX2_grow_8 : decode cX2_grow 8 = .ok (.if_icmp .ge 46, 3) := by decide +kernel
theorem dX2_grow_11 : decode cX2_grow 11 = .ok (.aload_n 0, 1) := by decide +kernel
theorem dX2_grow_12 : decode cX2_grow 12 = .ok (.getfield 9, 3) := by decide +kernel
theorem dX2_grow_15 : decode cX2_grow 15 = .ok (.iload_n 2, 1) := by decide +kernel
theorem dX2_grow_16 : decode cX2_grow 16 = .ok (.aload_n 0, 1) := by decide +kernel
theorem dX2_grow_17 : decode cX2_grow 17 = .ok (.getfield 32, 3) := by decide +kernel
theorem dX2_grow_20 : decode cX2_grow 20 = .ok (.iconst 3, 1) := by decide +kernel
theorem dX2_grow_21 : decode cX2_grow 21 = .ok (.if_icmp .ne 14, 3) := by decide +kernel
theorem dX2_grow_24 : decode cX2_grow 24 = .ok (.lconst 1, 1) := by decide +kernel
theorem dX2_grow_25 : decode cX2_grow 25 = .ok (.aload_n 0, 1) := by decide +kernel
theorem dX2_grow_26 : decode cX2_grow 26 = .ok (.getfield 9, 3) := by decide +kernel
theorem dX2_grow_29 : decode cX2_grow 29 = .ok (.iload_n 2, 1) := by decide +kernel
theorem dX2_grow_30 : decode cX2_grow 30 = .ok (.laload, 1) := by decide +kernel
theorem dX2_grow_31 : decode cX2_grow 31 = .ok (.lsub, 1) := by decide +kernel
theorem dX2_grow_32 : decode cX2_grow 32 = .ok (.goto 15, 3) := by decide +kernel
theorem dX2_grow_35 : decode cX2_grow 35 = .ok (.aload_n 0, 1) := by decide +kernel
theorem dX2_grow_36 : decode cX2_grow 36 = .ok (.aload_n 0, 1) := by decide +kernel
theorem dX2_grow_37 : decode cX2_grow 37 = .ok (.getfield 9, 3) := by decide +kernel
theorem dX2_grow_40 : decode cX2_grow 40 = .ok (.iload_n 2, 1) := by decide +kernel
theorem dX2_grow_41 : decode cX2_grow 41 = .ok (.laload, 1) := by decide +kernel
theorem dX2_grow_42 : decode cX2_grow 42 = .ok (.lconst 1, 1) := by decide +kernel
theorem dX2_grow_43 : decode cX2_grow 43 = .ok (.ladd, 1) := by decide +kernel
theorem dX2_grow_44 : decode cX2_grow 44 = .ok (.invokevirtual 15, 3) := by decide +kernel
theorem dX2_grow_47 : decode cX2_grow 47 = .ok (.lastore, 1) := by decide +kernel
theorem dX2_grow_48 : decode cX2_grow 48 = .ok (.iinc 2 1, 3) := by decide +kernel
theorem dX2_grow_51 : decode cX2_grow 51 = .ok (.goto (-49), 3) := by decide +kernel
theorem dX2_grow_54 : decode cX2_grow 54 = .ok (.return_, 1) := by decide +kernel
theorem dX2_fit_0 : decode cX2_fit 0 = .ok (.aload_n 0, 1) := by decide +kernel
theorem dX2_fit_1 : decode cX2_fit 1 = .ok (.getfield 32, 3) := by decide +kernel
theorem dX2_fit_4 : decode cX2_fit 4 = .ok (.tableswitch 54 0 3 #[32, 37, 54, 42], 32) := by decide +kernel
theorem dX2_fit_36 : decode cX2_fit 36 = .ok (.lload_n 1, 1) := by decide +kernel
theorem dX2_fit_37 : decode cX2_fit 37 = .ok (.l2i, 1) := by decide +kernel
theorem dX2_fit_38 : decode cX2_fit 38 = .ok (.i2c, 1) := by decide +kernel
theorem dX2_fit_39 : decode cX2_fit 39 = .ok (.i2l, 1) := by decide +kernel
theorem dX2_fit_40 : decode cX2_fit 40 = .ok (.lreturn, 1) := by decide +kernel
theorem dX2_fit_41 : decode cX2_fit 41 = .ok (.lload_n 1, 1) := by decide +kernel
theorem dX2_fit_42 : decode cX2_fit 42 = .ok (.l2i, 1) := by decide +kernel
theorem dX2_fit_43 : decode cX2_fit 43 = .ok (.i2s, 1) := by decide +kernel
theorem dX2_fit_44 : decode cX2_fit 44 = .ok (.i2l, 1) := by decide +kernel
theorem dX2_fit_45 : decode cX2_fit 45 = .ok (.lreturn, 1) := by decide +kernel
theorem dX2_fit_46 : decode cX2_fit 46 = .ok (.lload_n 1, 1) := by decide +kernel
theorem dX2_fit_47 : decode cX2_fit 47 = .ok (.lconst 0, 1) := by decide +kernel
theorem dX2_fit_48 : decode cX2_fit 48 = .ok (.lcmp, 1) := by decide +kernel
theorem dX2_fit_49 : decode cX2_fit 49 = .ok (.ifCond .eq 7, 3) := by decide +kernel
theorem dX2_fit_52 : decode cX2_fit 52 = .ok (.lconst 1, 1) := by decide +kernel
theorem dX2_fit_53 : decode cX2_fit 53 = .ok (.goto 4, 3) := by decide +kernel
theorem dX2_fit_56 : decode cX2_fit 56 = .ok (.lconst 0, 1) := by decide +kernel
theorem dX2_fit_57 : decode cX2_fit 57 = .ok (.lreturn, 1) := by decide +kernel
theorem dX2_fit_58 : decode cX2_fit 58 = .ok (.lload_n 1, 1) := by decide +kernel
theorem dX2_fit_59 : decode cX2_fit 59 = .ok (.lreturn, 1) := by decide +kernel
theorem dX3_init_0 : decode cX3_init 0 = .ok (.aload_n 0, 1) := by decide +kernel
theorem dX3_init_1 : decode cX3_init 1 = .ok (.iload_n 1, 1) := by decide +kernel
theorem dX3_init_2 : decode cX3_init 2 = .ok (.iload_n 2, 1) := by decide +kernel
theorem dX3_init_3 : decode cX3_init 3 = .ok (.invokespecial 3, 3) := by decide +kernel
theorem dX3_init_6 : decode cX3_init 6 = .ok (.aload_n 0, 1) := by decide +kernel
theorem dX3_init_7 : decode cX3_init 7 = .ok (.iconst 0, 1) := by decide +kernel
theorem dX3_init_8 : decode cX3_init 8 = .ok (.putfield 9, 3) := by decide +kernel
theorem dX3_init_11 : decode cX3_init 11 = .ok (.return_, 1) := by decide +kernel
theorem dX3_places_0 : decode cX3_places 0 = .ok (.iconst 1, 1) := by decide +kernel
theorem dX3_places_1 : decode cX3_places 1 = .ok (.ireturn, 1) := by decide +kernel
theorem dX3_turn_0 : decode cX3_turn 0 = .ok (.return_, 1) := by decide +kernel
theorem dX3_grow_0 : decode cX3_grow 0 = .ok (.aload_n 0, 1) := by decide +kernel
theorem dX3_grow_1 : decode cX3_grow 1 = .ok (.dup, 1) := by decide +kernel
theorem dX3_grow_2 : decode cX3_grow 2 = .ok (.getfield 9, 3) := by decide +kernel
theorem dX3_grow_5 : decode cX3_grow 5 = .ok (.aload_n 0, 1) := by decide +kernel
theorem dX3_grow_6 : decode cX3_grow 6 = .ok (.getfield 15, 3) := by decide +kernel
theorem dX3_grow_9 : decode cX3_grow 9 = .ok (.bipush 6, 2) := by decide +kernel
theorem dX3_grow_11 : decode cX3_grow 11 = .ok (.if_icmp .ne 7, 3) := by decide +kernel
theorem dX3_grow_14 : decode cX3_grow 14 = .ok (.iconst 2, 1) := by decide +kernel
theorem dX3_grow_15 : decode cX3_grow 15 = .ok (.goto 4, 3) := by decide +kernel
theorem dX3_grow_18 : decode cX3_grow 18 = .ok (.iconst 1, 1) := by decide +kernel
theorem dX3_grow_19 : decode cX3_grow 19 = .ok (.iadd, 1) := by decide +kernel
theorem dX3_grow_20 : decode cX3_grow 20 = .ok (.putfield 9, 3) := by decide +kernel
theorem dX3_grow_23 : decode cX3_grow 23 = .ok (.return_, 1) := by decide +kernel
theorem dX4_init_0 : decode cX4_init 0 = .ok (.aload_n 0, 1) := by decide +kernel
theorem dX4_init_1 : decode cX4_init 1 = .ok (.invokespecial 3, 3) := by decide +kernel
theorem dX4_init_4 : decode cX4_init 4 = .ok (.aload_n 0, 1) := by decide +kernel
theorem dX4_init_5 : decode cX4_init 5 = .ok (.iconst 4, 1) := by decide +kernel
theorem dX4_init_6 : decode cX4_init 6 = .ok (.anewarray 9, 3) := by decide +kernel
theorem dX4_init_9 : decode cX4_init 9 = .ok (.putfield 11, 3) := by decide +kernel
theorem dX4_init_12 : decode cX4_init 12 = .ok (.aload_n 0, 1) := by decide +kernel
theorem dX4_init_13 : decode cX4_init 13 = .ok (.iconst 0, 1) := by decide +kernel
theorem dX4_init_14 : decode cX4_init 14 = .ok (.putfield 17, 3) := by decide +kernel
theorem dX4_init_17 : decode cX4_init 17 = .ok (.return_, 1) := by decide +kernel
theorem dX4_findDesk_0 : decode cX4_findDesk 0 = .ok (.iload_n 1, 1) := by decide +kernel
theorem dX4_findDesk_1 : decode cX4_findDesk 1 = .ok (.ifCond .lt 17, 3) := by decide +kernel
theorem dX4_findDesk_4 : decode cX4_findDesk 4 = .ok (.iload_n 1, 1) := by decide +kernel
theorem dX4_findDesk_5 : decode cX4_findDesk 5 = .ok (.iconst 4, 1) := by decide +kernel
theorem dX4_findDesk_6 : decode cX4_findDesk 6 = .ok (.if_icmp .ge 12, 3) := by decide +kernel
theorem dX4_findDesk_9 : decode cX4_findDesk 9 = .ok (.aload_n 0, 1) := by decide +kernel
theorem dX4_findDesk_10 : decode cX4_findDesk 10 = .ok (.getfield 11, 3) := by decide +kernel
theorem dX4_findDesk_13 : decode cX4_findDesk 13 = .ok (.iload_n 1, 1) := by decide +kernel
theorem dX4_findDesk_14 : decode cX4_findDesk 14 = .ok (.aaload, 1) := by decide +kernel
theorem dX4_findDesk_15 : decode cX4_findDesk 15 = .ok (.goto 4, 3) := by decide +kernel
theorem dX4_findDesk_18 : decode cX4_findDesk 18 = .ok (.aconst_null, 1) := by decide +kernel
theorem dX4_findDesk_19 : decode cX4_findDesk 19 = .ok (.areturn, 1) := by decide +kernel
theorem dX5_init_0 : decode cX5_init 0 = .ok (.aload_n 0, 1) := by decide +kernel
theorem dX5_init_1 : decode cX5_init 1 = .ok (.iload_n 1, 1) := by decide +kernel
theorem dX5_init_2 : decode cX5_init 2 = .ok (.iload_n 2, 1) := by decide +kernel
theorem dX5_init_3 : decode cX5_init 3 = .ok (.invokespecial 3, 3) := by decide +kernel
theorem dX5_init_6 : decode cX5_init 6 = .ok (.aload_n 0, 1) := by decide +kernel
theorem dX5_init_7 : decode cX5_init 7 = .ok (.iload_n 3, 1) := by decide +kernel
theorem dX5_init_8 : decode cX5_init 8 = .ok (.anewarray 4, 3) := by decide +kernel
theorem dX5_init_11 : decode cX5_init 11 = .ok (.putfield 9, 3) := by decide +kernel
theorem dX5_init_14 : decode cX5_init 14 = .ok (.return_, 1) := by decide +kernel
theorem dX5_hasPlace_0 : decode cX5_hasPlace 0 = .ok (.iload_n 1, 1) := by decide +kernel
theorem dX5_hasPlace_1 : decode cX5_hasPlace 1 = .ok (.ifCond .lt 16, 3) := by decide +kernel
theorem dX5_hasPlace_4 : decode cX5_hasPlace 4 = .ok (.iload_n 1, 1) := by decide +kernel
theorem dX5_hasPlace_5 : decode cX5_hasPlace 5 = .ok (.aload_n 0, 1) := by decide +kernel
theorem dX5_hasPlace_6 : decode cX5_hasPlace 6 = .ok (.getfield 9, 3) := by decide +kernel
theorem dX5_hasPlace_9 : decode cX5_hasPlace 9 = .ok (.arraylength, 1) := by decide +kernel
theorem dX5_hasPlace_10 : decode cX5_hasPlace 10 = .ok (.if_icmp .ge 7, 3) := by decide +kernel
theorem dX5_hasPlace_13 : decode cX5_hasPlace 13 = .ok (.iconst 1, 1) := by decide +kernel
theorem dX5_hasPlace_14 : decode cX5_hasPlace 14 = .ok (.goto 4, 3) := by decide +kernel
theorem dX5_hasPlace_17 : decode cX5_hasPlace 17 = .ok (.iconst 0, 1) := by decide +kernel
theorem dX5_hasPlace_18 : decode cX5_hasPlace 18 = .ok (.ireturn, 1) := by decide +kernel
theorem dX5_takes_0 : decode cX5_takes 0 = .ok (.aload_n 1, 1) := by decide +kernel
theorem dX5_takes_1 : decode cX5_takes 1 = .ok (.ifnull 14, 3) := by decide +kernel
theorem dX5_takes_4 : decode cX5_takes 4 = .ok (.aload_n 1, 1) := by decide +kernel
theorem dX5_takes_5 : decode cX5_takes 5 = .ok (.aload_n 0, 1) := by decide +kernel
theorem dX5_takes_6 : decode cX5_takes 6 = .ok (.invokevirtual 15, 3) := by decide +kernel
theorem dX5_takes_9 : decode cX5_takes 9 = .ok (.invokevirtual 19, 3) := by decide +kernel
theorem dX5_takes_12 : decode cX5_takes 12 = .ok (.ifCond .eq 7, 3) := by decide +kernel
theorem dX5_takes_15 : decode cX5_takes 15 = .ok (.iconst 1, 1) := by decide +kernel
theorem dX5_takes_16 : decode cX5_takes 16 = .ok (.goto 4, 3) := by decide +kernel
theorem dX5_takes_19 : decode cX5_takes 19 = .ok (.iconst 0, 1) := by decide +kernel
theorem dX5_takes_20 : decode cX5_takes 20 = .ok (.ireturn, 1) := by decide +kernel
theorem dX5_canHold_0 : decode cX5_canHold 0 = .ok (.aload_n 1, 1) := by decide +kernel
theorem dX5_canHold_1 : decode cX5_canHold 1 = .ok (.ifnonnull 5, 3) := by decide +kernel
theorem dX5_canHold_4 : decode cX5_canHold 4 = .ok (.iconst 1, 1) := by decide +kernel
theorem dX5_canHold_5 : decode cX5_canHold 5 = .ok (.ireturn, 1) := by decide +kernel
theorem dX5_canHold_6 : decode cX5_canHold 6 = .ok (.aload_n 0, 1) := by decide +kernel
theorem dX5_canHold_7 : decode cX5_canHold 7 = .ok (.getfield 23, 3) := by decide +kernel
theorem dX5_canHold_10 : decode cX5_canHold 10 = .ok (.lookupswitch 56 #[(9, 26), (12, 41)], 26) := by decide +kernel
theorem dX5_canHold_36 : decode cX5_canHold 36 = .ok (.aload_n 1, 1) := by decide +kernel
theorem dX5_canHold_37 : decode cX5_canHold 37 = .ok (.getfield 27, 3) := by decide +kernel
theorem dX5_canHold_40 : decode cX5_canHold 40 = .ok (.bipush 6, 2) := by decide +kernel
theorem dX5_canHold_42 : decode cX5_canHold 42 = .ok (.if_icmp .ne 7, 3) := by decide +kernel
theorem dX5_canHold_45 : decode cX5_canHold 45 = .ok (.iconst 1, 1) := by decide +kernel
theorem dX5_canHold_46 : decode cX5_canHold 46 = .ok (.goto 4, 3) := by decide +kernel
theorem dX5_canHold_49 : decode cX5_canHold 49 = .ok (.iconst 0, 1) := by decide +kernel
theorem dX5_canHold_50 : decode cX5_canHold 50 = .ok (.ireturn, 1) := by decide +kernel
theorem dX5_canHold_51 : decode cX5_canHold 51 = .ok (.aload_n 1, 1) := by decide +kernel
theorem dX5_canHold_52 : decode cX5_canHold 52 = .ok (.getfield 27, 3) := by decide +kernel
theorem dX5_canHold_55 : decode cX5_canHold 55 = .ok (.bipush 9, 2) := by decide +kernel
theorem dX5_canHold_57 : decode cX5_canHold 57 = .ok (.if_icmp .ne 7, 3) := by decide +kernel
theorem dX5_canHold_60 : decode cX5_canHold 60 = .ok (.iconst 1, 1) := by decide +kernel
theorem dX5_canHold_61 : decode cX5_canHold 61 = .ok (.goto 4, 3) := by decide +kernel
theorem dX5_canHold_64 : decode cX5_canHold 64 = .ok (.iconst 0, 1) := by decide +kernel
theorem dX5_canHold_65 : decode cX5_canHold 65 = .ok (.ireturn, 1) := by decide +kernel
theorem dX5_canHold_66 : decode cX5_canHold 66 = .ok (.aload_n 1, 1) := by decide +kernel
theorem dX5_canHold_67 : decode cX5_canHold 67 = .ok (.aload_n 0, 1) := by decide +kernel
theorem dX5_canHold_68 : decode cX5_canHold 68 = .ok (.invokevirtual 15, 3) := by decide +kernel
theorem dX5_canHold_71 : decode cX5_canHold 71 = .ok (.invokevirtual 19, 3) := by decide +kernel
theorem dX5_canHold_74 : decode cX5_canHold 74 = .ok (.ireturn, 1) := by decide +kernel
theorem dX5_takenForm_0 : decode cX5_takenForm 0 = .ok (.aload_n 0, 1) := by decide +kernel
theorem dX5_takenForm_1 : decode cX5_takenForm 1 = .ok (.getfield 23, 3) := by decide +kernel
theorem dX5_takenForm_4 : decode cX5_takenForm 4 = .ok (.tableswitch 53 4 10 #[44, 53, 53, 53, 46, 48, 50], 44) := by decide +kernel
theorem dX5_takenForm_48 : decode cX5_takenForm 48 = .ok (.iconst 0, 1) := by decide +kernel
theorem dX5_takenForm_49 : decode cX5_takenForm 49 = .ok (.ireturn, 1) := by decide +kernel
theorem dX5_takenForm_50 : decode cX5_takenForm 50 = .ok (.iconst 5, 1) := by decide +kernel
theorem dX5_takenForm_51 : decode cX5_takenForm 51 = .ok (.ireturn, 1) := by decide +kernel
theorem dX5_takenForm_52 : decode cX5_takenForm 52 = .ok (.iconst 5, 1) := by decide +kernel
theorem dX5_takenForm_53 : decode cX5_takenForm 53 = .ok (.ireturn, 1) := by decide +kernel
theorem dX5_takenForm_54 : decode cX5_takenForm 54 = .ok (.bipush 13, 2) := by decide +kernel
theorem dX5_takenForm_56 : decode cX5_takenForm 56 = .ok (.ireturn, 1) := by decide +kernel
theorem dX5_takenForm_57 : decode cX5_takenForm 57 = .ok (.bipush 8, 2) := by decide +kernel
theorem dX5_takenForm_59 : decode cX5_takenForm 59 = .ok (.ireturn, 1) := by decide +kernel
theorem dX5_places_0 : decode cX5_places 0 = .ok (.aload_n 0, 1) := by decide +kernel
theorem dX5_places_1 : decode cX5_places 1 = .ok (.getfield 9, 3) := by decide +kernel
theorem dX5_places_4 : decode cX5_places 4 = .ok (.arraylength, 1) := by decide +kernel
theorem dX5_places_5 : decode cX5_places 5 = .ok (.ireturn, 1) := by decide +kernel
theorem dX5_turn_0 : decode cX5_turn 0 = .ok (.iconst 0, 1) := by decide +kernel
theorem dX5_turn_1 : decode cX5_turn 1 = .ok (.istore_n 1, 1) := by decide +kernel
theorem dX5_turn_2 : decode cX5_turn 2 = .ok (.aload_n 0, 1) := by decide +kernel
theorem dX5_turn_3 : decode cX5_turn 3 = .ok (.getfield 9, 3) := by decide +kernel
theorem dX5_turn_6 : decode cX5_turn 6 = .ok (.arraylength, 1) := by decide +kernel
theorem dX5_turn_7 : decode cX5_turn 7 = .ok (.iconst 1, 1) := by decide +kernel
theorem dX5_turn_8 : decode cX5_turn 8 = .ok (.isub, 1) := by decide +kernel
theorem dX5_turn_9 : decode cX5_turn 9 = .ok (.istore_n 2, 1) := by decide +kernel
theorem dX5_turn_10 : decode cX5_turn 10 = .ok (.iload_n 1, 1) := by decide +kernel
theorem dX5_turn_11 : decode cX5_turn 11 = .ok (.iload_n 2, 1) := by decide +kernel
theorem dX5_turn_12 : decode cX5_turn 12 = .ok (.if_icmp .ge 38, 3) := by decide +kernel
theorem dX5_turn_15 : decode cX5_turn 15 = .ok (.aload_n 0, 1) := by decide +kernel
theorem dX5_turn_16 : decode cX5_turn 16 = .ok (.getfield 9, 3) := by decide +kernel
theorem dX5_turn_19 : decode cX5_turn 19 = .ok (.iload_n 1, 1) := by decide +kernel
theorem dX5_turn_20 : decode cX5_turn 20 = .ok (.aaload, 1) := by decide +kernel
theorem dX5_turn_21 : decode cX5_turn 21 = .ok (.astore_n 3, 1) := by decide +kernel
theorem dX5_turn_22 : decode cX5_turn 22 = .ok (.aload_n 0, 1) := by decide +kernel
theorem dX5_turn_23 : decode cX5_turn 23 = .ok (.getfield 9, 3) := by decide +kernel
theorem dX5_turn_26 : decode cX5_turn 26 = .ok (.iload_n 1, 1) := by decide +kernel
theorem dX5_turn_27 : decode cX5_turn 27 = .ok (.aload_n 0, 1) := by decide +kernel
theorem dX5_turn_28 : decode cX5_turn 28 = .ok (.getfield 9, 3) := by decide +kernel
theorem dX5_turn_31 : decode cX5_turn 31 = .ok (.iload_n 2, 1) := by decide +kernel
theorem dX5_turn_32 : decode cX5_turn 32 = .ok (.aaload, 1) := by decide +kernel
theorem dX5_turn_33 : decode cX5_turn 33 = .ok (.aastore, 1) := by decide +kernel
theorem dX5_turn_34 : decode cX5_turn 34 = .ok (.aload_n 0, 1) := by decide +kernel
theorem dX5_turn_35 : decode cX5_turn 35 = .ok (.getfield 9, 3) := by decide +kernel
theorem dX5_turn_38 : decode cX5_turn 38 = .ok (.iload_n 2, 1) := by decide +kernel
theorem dX5_turn_39 : decode cX5_turn 39 = .ok (.aload_n 3, 1) := by decide +kernel
theorem dX5_turn_40 : decode cX5_turn 40 = .ok (.aastore, 1) := by decide +kernel
theorem dX5_turn_41 : decode cX5_turn 41 = .ok (.iinc 1 1, 3) := by decide +kernel
theorem dX5_turn_44 : decode cX5_turn 44 = .ok (.iinc 2 (-1), 3) := by decide +kernel
theorem dX5_turn_47 : decode cX5_turn 47 = .ok (.goto (-37), 3) := by decide +kernel
theorem dX5_turn_50 : decode cX5_turn 50 = .ok (.return_, 1) := by decide +kernel
theorem dX5_grow_0 : decode cX5_grow 0 = .ok (.iload_n 1, 1) := by decide +kernel
theorem dX5_grow_1 : decode cX5_grow 1 = .ok (.iconst 1, 1) := by decide +kernel
theorem dX5_grow_2 : decode cX5_grow 2 = .ok (.if_icmp .gt 4, 3) := by decide +kernel
theorem dX5_grow_5 : decode cX5_grow 5 = .ok (.return_, 1) := by decide +kernel
theorem dX5_grow_6 : decode cX5_grow 6 = .ok (.iconst 0, 1) := by decide +kernel
theorem dX5_grow_7 : decode cX5_grow 7 = .ok (.istore_n 2, 1) := by decide +kernel
theorem dX5_grow_8 : decode cX5_grow 8 = .ok (.iload_n 2, 1) := by decide +kernel
theorem dX5_grow_9 : decode cX5_grow 9 = .ok (.aload_n 0, 1) := by decide +kernel
theorem dX5_grow_10 : decode cX5_grow 10 = .ok (.getfield 9, 3) := by decide +kernel
theorem dX5_grow_13 : decode cX5_grow 13 = .ok (.arraylength, 1) := by decide +kernel
theorem dX5_grow_14 : decode cX5_grow 14 = .ok (.if_icmp .ge 27, 3) := by decide +kernel
theorem dX5_grow_17 : decode cX5_grow 17 = .ok (.aload_n 0, 1) := by decide +kernel
theorem dX5_grow_18 : decode cX5_grow 18 = .ok (.getfield 9, 3) := by decide +kernel
theorem dX5_grow_21 : decode cX5_grow 21 = .ok (.iload_n 2, 1) := by decide +kernel
theorem dX5_grow_22 : decode cX5_grow 22 = .ok (.aaload, 1) := by decide +kernel
theorem dX5_grow_23 : decode cX5_grow 23 = .ok (.astore_n 3, 1) := by decide +kernel
theorem dX5_grow_24 : decode cX5_grow 24 = .ok (.aload_n 3, 1) := by decide +kernel
theorem dX5_grow_25 : decode cX5_grow 25 = .ok (.ifnull 10, 3) := by decide +kernel
theorem dX5_grow_28 : decode cX5_grow 28 = .ok (.aload_n 3, 1) := by decide +kernel
theorem dX5_grow_29 : decode cX5_grow 29 = .ok (.iload_n 1, 1) := by decide +kernel
theorem dX5_grow_30 : decode cX5_grow 30 = .ok (.iconst 1, 1) := by decide +kernel
theorem dX5_grow_31 : decode cX5_grow 31 = .ok (.isub, 1) := by decide +kernel
theorem dX5_grow_32 : decode cX5_grow 32 = .ok (.invokevirtual 28, 3) := by decide +kernel
theorem dX5_grow_35 : decode cX5_grow 35 = .ok (.iinc 2 1, 3) := by decide +kernel
theorem dX5_grow_38 : decode cX5_grow 38 = .ok (.goto (-30), 3) := by decide +kernel
theorem dX5_grow_41 : decode cX5_grow 41 = .ok (.return_, 1) := by decide +kernel
theorem dX6_init_0 : decode cX6_init 0 = .ok (.aload_n 0, 1) := by decide +kernel
theorem dX6_init_1 : decode cX6_init 1 = .ok (.invokespecial 1, 3) := by decide +kernel
theorem dX6_init_4 : decode cX6_init 4 = .ok (.aload_n 0, 1) := by decide +kernel
theorem dX6_init_5 : decode cX6_init 5 = .ok (.bipush 60, 2) := by decide +kernel
theorem dX6_init_7 : decode cX6_init 7 = .ok (.anewarray 9, 3) := by decide +kernel
theorem dX6_init_10 : decode cX6_init 10 = .ok (.putfield 11, 3) := by decide +kernel
theorem dX6_init_13 : decode cX6_init 13 = .ok (.aload_n 0, 1) := by decide +kernel
theorem dX6_init_14 : decode cX6_init 14 = .ok (.bipush 8, 2) := by decide +kernel
theorem dX6_init_16 : decode cX6_init 16 = .ok (.anewarray 15, 3) := by decide +kernel
theorem dX6_init_19 : decode cX6_init 19 = .ok (.putfield 17, 3) := by decide +kernel
theorem dX6_init_22 : decode cX6_init 22 = .ok (.aload_n 0, 1) := by decide +kernel
theorem dX6_init_23 : decode cX6_init 23 = .ok (.iconst 0, 1) := by decide +kernel
theorem dX6_init_24 : decode cX6_init 24 = .ok (.putfield 21, 3) := by decide +kernel
theorem dX6_init_27 : decode cX6_init 27 = .ok (.aload_n 0, 1) := by decide +kernel
theorem dX6_init_28 : decode cX6_init 28 = .ok (.iconst 0, 1) := by decide +kernel
theorem dX6_init_29 : decode cX6_init 29 = .ok (.putfield 25, 3) := by decide +kernel
theorem dX6_init_32 : decode cX6_init 32 = .ok (.aload_n 0, 1) := by decide +kernel
theorem dX6_init_33 : decode cX6_init 33 = .ok (.iconst 0, 1) := by decide +kernel
theorem dX6_init_34 : decode cX6_init 34 = .ok (.putfield 28, 3) := by decide +kernel
theorem dX6_init_37 : decode cX6_init 37 = .ok (.aload_n 0, 1) := by decide +kernel
theorem dX6_init_38 : decode cX6_init 38 = .ok (.iconst (-1), 1) := by decide +kernel
theorem dX6_init_39 : decode cX6_init 39 = .ok (.putfield 31, 3) := by decide +kernel
theorem dX6_init_42 : decode cX6_init 42 = .ok (.aload_n 0, 1) := by decide +kernel
theorem dX6_init_43 : decode cX6_init 43 = .ok (.iconst 0, 1) := by decide +kernel
theorem dX6_init_44 : decode cX6_init 44 = .ok (.putfield 34, 3) := by decide +kernel
theorem dX6_init_47 : decode cX6_init 47 = .ok (.aload_n 0, 1) := by decide +kernel
theorem dX6_init_48 : decode cX6_init 48 = .ok (.iconst 0, 1) := by decide +kernel
theorem dX6_init_49 : decode cX6_init 49 = .ok (.putfield 37, 3) := by decide +kernel
theorem dX6_init_52 : decode cX6_init 52 = .ok (.aload_n 0, 1) := by decide +kernel
theorem dX6_init_53 : decode cX6_init 53 = .ok (.iconst 0, 1) := by decide +kernel
theorem dX6_init_54 : decode cX6_init 54 = .ok (.putfield 40, 3) := by decide +kernel
theorem dX6_init_57 : decode cX6_init 57 = .ok (.aload_n 0, 1) := by decide +kernel
theorem dX6_init_58 : decode cX6_init 58 = .ok (.iconst 0, 1) := by decide +kernel
theorem dX6_init_59 : decode cX6_init 59 = .ok (.putfield 43, 3) := by decide +kernel
theorem dX6_init_62 : decode cX6_init 62 = .ok (.aload_n 0, 1) := by decide +kernel
theorem dX6_init_63 : decode cX6_init 63 = .ok (.iconst 0, 1) := by decide +kernel
theorem dX6_init_64 : decode cX6_init 64 = .ok (.putfield 46, 3) := by decide +kernel
theorem dX6_init_67 : decode cX6_init 67 = .ok (.iconst 0, 1) := by decide +kernel
theorem dX6_init_68 : decode cX6_init 68 = .ok (.istore_n 1, 1) := by decide +kernel
theorem dX6_init_69 : decode cX6_init 69 = .ok (.iload_n 1, 1) := by decide +kernel
theorem dX6_init_70 : decode cX6_init 70 = .ok (.bipush 8, 2) := by decide +kernel
theorem dX6_init_72 : decode cX6_init 72 = .ok (.if_icmp .ge 22, 3) := by decide +kernel
theorem dX6_init_75 : decode cX6_init 75 = .ok (.aload_n 0, 1) := by decide +kernel
theorem dX6_init_76 : decode cX6_init 76 = .ok (.getfield 17, 3) := by decide +kernel
theorem dX6_init_79 : decode cX6_init 79 = .ok (.iload_n 1, 1) := by decide +kernel
theorem dX6_init_80 : decode cX6_init 80 = .ok (.new 15, 3) := by decide +kernel
theorem dX6_init_83 : decode cX6_init 83 = .ok (.dup, 1) := by decide +kernel
theorem dX6_init_84 : decode cX6_init 84 = .ok (.invokespecial 49, 3) := by decide +kernel
theorem dX6_init_87 : decode cX6_init 87 = .ok (.aastore, 1) := by decide +kernel
theorem dX6_init_88 : decode cX6_init 88 = .ok (.iinc 1 1, 3) := by decide +kernel
theorem dX6_init_91 : decode cX6_init 91 = .ok (.goto (-22), 3) := by decide +kernel
theorem dX6_init_94 : decode cX6_init 94 = .ok (.return_, 1) := by decide +kernel
theorem dX6_make_0 : decode cX6_make 0 = .ok (.iload_n 1, 1) := by decide +kernel
theorem dX6_make_1 : decode cX6_make 1 = .ok (.ifCond .lt 9, 3) := by decide +kernel
theorem dX6_make_4 : decode cX6_make 4 = .ok (.iload_n 1, 1) := by decide +kernel
theorem dX6_make_5 : decode cX6_make 5 = .ok (.bipush 12, 2) := by decide +kernel
theorem dX6_make_7 : decode cX6_make 7 = .ok (.if_icmp .le 10, 3) := by decide +kernel
theorem dX6_make_10 : decode cX6_make 10 = .ok (.aload_n 0, 1) := by decide +kernel
theorem dX6_make_11 : decode cX6_make 11 = .ok (.bipush (-2), 2) := by decide +kernel
theorem dX6_make_13 : decode cX6_make 13 = .ok (.invokevirtual 50, 3) := by decide +kernel
theorem dX6_make_16 : decode cX6_make 16 = .ok (.ireturn, 1) := by decide +kernel
theorem dX6_make_17 : decode cX6_make 17 = .ok (.iload_n 1, 1) := by decide +kernel
theorem dX6_make_18 : decode cX6_make 18 = .ok (.invokestatic 54, 3) := by decide +kernel
theorem dX6_make_21 : decode cX6_make 21 = .ok (.ifCond .ne 19, 3) := by decide +kernel
theorem dX6_make_24 : decode cX6_make 24 = .ok (.iload_n 2, 1) := by decide +kernel
theorem dX6_make_25 : decode cX6_make 25 = .ok (.ifCond .lt 8, 3) := by decide +kernel
theorem dX6_make_28 : decode cX6_make 28 = .ok (.iload_n 2, 1) := by decide +kernel
theorem dX6_make_29 : decode cX6_make 29 = .ok (.iconst 3, 1) := by decide +kernel
theorem dX6_make_30 : decode cX6_make 30 = .ok (.if_icmp .le 10, 3) := by decide +kernel
theorem dX6_make_33 : decode cX6_make 33 = .ok (.aload_n 0, 1) := by decide +kernel
theorem dX6_make_34 : decode cX6_make 34 = .ok (.bipush (-2), 2) := by decide +kernel
theorem dX6_make_36 : decode cX6_make 36 = .ok (.invokevirtual 50, 3) := by decide +kernel
theorem dX6_make_39 : decode cX6_make 39 = .ok (.ireturn, 1) := by decide +kernel
theorem dX6_make_40 : decode cX6_make 40 = .ok (.aload_n 0, 1) := by decide +kernel
theorem dX6_make_41 : decode cX6_make 41 = .ok (.getfield 21, 3) := by decide +kernel
theorem dX6_make_44 : decode cX6_make 44 = .ok (.bipush 60, 2) := by decide +kernel
theorem dX6_make_46 : decode cX6_make 46 = .ok (.if_icmp .lt 10, 3) := by decide +kernel
theorem dX6_make_49 : decode cX6_make 49 = .ok (.aload_n 0, 1) := by decide +kernel
theorem dX6_make_50 : decode cX6_make 50 = .ok (.bipush (-3), 2) := by decide +kernel
theorem dX6_make_52 : decode cX6_make 52 = .ok (.invokevirtual 50, 3) := by decide +kernel
theorem dX6_make_55 : decode cX6_make 55 = .ok (.ireturn, 1) := by decide +kernel
theorem dX6_make_56 : decode cX6_make 56 = .ok (.aload_n 0, 1) := by decide +kernel
theorem dX6_make_57 : decode cX6_make 57 = .ok (.getfield 21, 3) := by decide +kernel
theorem dX6_make_60 : decode cX6_make 60 = .ok (.istore_n 3, 1) := by decide +kernel
theorem dX6_make_61 : decode cX6_make 61 = .ok (.aload_n 0, 1) := by decide +kernel
theorem dX6_make_62 : decode cX6_make 62 = .ok (.getfield 11, 3) := by decide +kernel
theorem dX6_make_65 : decode cX6_make 65 = .ok (.iload_n 3, 1) := by decide +kernel
theorem dX6_make_66 : decode cX6_make 66 = .ok (.iload_n 3, 1) := by decide +kernel
theorem dX6_make_67 : decode cX6_make 67 = .ok (.iload_n 1, 1) := by decide +kernel
theorem dX6_make_68 : decode cX6_make 68 = .ok (.iload_n 2, 1) := by decide +kernel
theorem dX6_make_69 : decode cX6_make 69 = .ok (.invokestatic 58, 3) := by decide +kernel
theorem dX6_make_72 : decode cX6_make 72 = .ok (.aastore, 1) := by decide +kernel
theorem dX6_make_73 : decode cX6_make 73 = .ok (.aload_n 0, 1) := by decide +kernel
theorem dX6_make_74 : decode cX6_make 74 = .ok (.dup, 1) := by decide +kernel
theorem dX6_make_75 : decode cX6_make 75 = .ok (.getfield 21, 3) := by decide +kernel
theorem dX6_make_78 : decode cX6_make 78 = .ok (.iconst 1, 1) := by decide +kernel
theorem dX6_make_79 : decode cX6_make 79 = .ok (.iadd, 1) := by decide +kernel
theorem dX6_make_80 : decode cX6_make 80 = .ok (.putfield 21, 3) := by decide +kernel
theorem dX6_make_83 : decode cX6_make 83 = .ok (.aload_n 0, 1) := by decide +kernel
theorem dX6_make_84 : decode cX6_make 84 = .ok (.iload_n 3, 1) := by decide +kernel
theorem dX6_make_85 : decode cX6_make 85 = .ok (.invokevirtual 62, 3) := by decide +kernel
theorem dX6_make_88 : decode cX6_make 88 = .ok (.ireturn, 1) := by decide +kernel
theorem dX6_put_0 : decode cX6_put 0 = .ok (.aload_n 0, 1) := by decide +kernel
theorem dX6_put_1 : decode cX6_put 1 = .ok (.iload_n 1, 1) := by decide +kernel
theorem dX6_put_2 : decode cX6_put 2 = .ok (.iload_n 2, 1) := by decide +kernel
theorem dX6_put_3 : decode cX6_put 3 = .ok (.invokevirtual 65, 3) := by decide +kernel
theorem dX6_put_6 : decode cX6_put 6 = .ok (.astore 4, 2) := by decide +kernel
theorem dX6_put_8 : decode cX6_put 8 = .ok (.aload 4, 2) := by decide +kernel
theorem dX6_put_10 : decode cX6_put 10 = .ok (.ifnonnull 8, 3) := by decide +kernel
theorem dX6_put_13 : decode cX6_put 13 = .ok (.aload_n 0, 1) := by decide +kernel
theorem dX6_put_14 : decode cX6_put 14 = .ok (.getfield 34, 3) := by decide +kernel
theorem dX6_put_17 : decode cX6_put 17 = .ok (.ireturn, 1) := by decide +kernel
theorem dX6_put_18 : decode cX6_put 18 = .ok (.aload 4, 2) := by decide +kernel
theorem dX6_put_20 : decode cX6_put 20 = .ok (.iload_n 2, 1) := by decide +kernel
theorem dX6_put_21 : decode cX6_put 21 = .ok (.iload_n 3, 1) := by decide +kernel
theorem dX6_put_22 : decode cX6_put 22 = .ok (.invokevirtual 69, 3) := by decide +kernel
theorem dX6_put_25 : decode cX6_put 25 = .ok (.aload_n 0, 1) := by decide +kernel
theorem dX6_put_26 : decode cX6_put 26 = .ok (.iconst 1, 1) := by decide +kernel
theorem dX6_put_27 : decode cX6_put 27 = .ok (.invokevirtual 62, 3) := by decide +kernel
theorem dX6_put_30 : decode cX6_put 30 = .ok (.ireturn, 1) := by decide +kernel
theorem dX6_get_0 : decode cX6_get 0 = .ok (.aload_n 0, 1) := by decide +kernel
theorem dX6_get_1 : decode cX6_get 1 = .ok (.iload_n 1, 1) := by decide +kernel
theorem dX6_get_2 : decode cX6_get 2 = .ok (.iload_n 2, 1) := by decide +kernel
theorem dX6_get_3 : decode cX6_get 3 = .ok (.invokevirtual 65, 3) := by decide +kernel
theorem dX6_get_6 : decode cX6_get 6 = .ok (.astore_n 3, 1) := by decide +kernel
theorem dX6_get_7 : decode cX6_get 7 = .ok (.aload_n 3, 1) := by decide +kernel
theorem dX6_get_8 : decode cX6_get 8 = .ok (.ifnonnull 7, 3) := by decide +kernel
theorem dX6_get_11 : decode cX6_get 11 = .ok (.iconst 0, 1) := by decide +kernel
theorem dX6_get_12 : decode cX6_get 12 = .ok (.goto 12, 3) := by decide +kernel
theorem dX6_get_15 : decode cX6_get 15 = .ok (.aload_n 0, 1) := by decide +kernel
theorem dX6_get_16 : decode cX6_get 16 = .ok (.aload_n 3, 1) := by decide +kernel
theorem dX6_get_17 : decode cX6_get 17 = .ok (.iload_n 2, 1) := by decide +kernel
theorem dX6_get_18 : decode cX6_get 18 = .ok (.invokevirtual 75, 3) := by decide +kernel
theorem dX6_get_21 : decode cX6_get 21 = .ok (.invokevirtual 62, 3) := by decide +kernel
theorem dX6_get_24 : decode cX6_get 24 = .ok (.ireturn, 1) := by decide +kernel
theorem dX6_lay_0 : decode cX6_lay 0 = .ok (.aload_n 0, 1) := by decide +kernel
theorem dX6_lay_1 : decode cX6_lay 1 = .ok (.iload_n 1, 1) := by decide +kernel
theorem dX6_lay_2 : decode cX6_lay 2 = .ok (.invokevirtual 78, 3) := by decide +kernel
theorem dX6_lay_5 : decode cX6_lay 5 = .ok (.astore 4, 2) := by decide +kernel
theorem dX6_lay_7 : decode cX6_lay 7 = .ok (.aload_n 0, 1) := by decide +kernel
theorem dX6_lay_8 : decode cX6_lay 8 = .ok (.iload_n 3, 1) := by decide +kernel
theorem dX6_lay_9 : decode cX6_lay 9 = .ok (.invokevirtual 78, 3) := by decide +kernel
theorem dX6_lay_12 : decode cX6_lay 12 = .ok (.astore 5, 2) := by decide +kernel
theorem dX6_lay_14 : decode cX6_lay 14 = .ok (.aload 4, 2) := by decide +kernel
theorem dX6_lay_16 : decode cX6_lay 16 = .ok (.ifnull 13, 3) := by decide +kernel
theorem dX6_lay_19 : decode cX6_lay 19 = .ok (.aload 5, 2) := by decide +kernel
theorem dX6_lay_21 : decode cX6_lay 21 = .ok (.ifnonnull 15, 3) := by decide +kernel
theorem dX6_lay_24 : decode cX6_lay 24 = .ok (.iload_n 3, 1) := by decide +kernel
theorem dX6_lay_25 : decode cX6_lay 25 = .ok (.iconst (-1), 1) := by decide +kernel
theorem dX6_lay_26 : decode cX6_lay 26 = .ok (.if_icmp .eq 10, 3) := by decide +kernel
theorem dX6_lay_29 : decode cX6_lay 29 = .ok (.aload_n 0, 1) := by decide +kernel
theorem dX6_lay_30 : decode cX6_lay 30 = .ok (.bipush (-2), 2) := by decide +kernel
theorem dX6_lay_32 : decode cX6_lay 32 = .ok (.invokevirtual 50, 3) := by decide +kernel
theorem dX6_lay_35 : decode cX6_lay 35 = .ok (.ireturn, 1) := by decide +kernel
theorem dX6_lay_36 : decode cX6_lay 36 = .ok (.aload 4, 2) := by decide +kernel
theorem dX6_lay_38 : decode cX6_lay 38 = .ok (.instanceof 82, 3) := by decide +kernel
theorem dX6_lay_41 : decode cX6_lay 41 = .ok (.ifCond .eq 68, 3) := by decide +kernel
theorem dX6_lay_44 : decode cX6_lay 44 = .ok (.aload 4, 2) := by decide +kernel
theorem dX6_lay_46 : decode cX6_lay 46 = .ok (.checkcast 82, 3) := by decide +kernel
theorem dX6_lay_49 : decode cX6_lay 49 = .ok (.astore 6, 2) := by decide +kernel
theorem dX6_lay_51 : decode cX6_lay 51 = .ok (.aload 6, 2) := by decide +kernel
theorem dX6_lay_53 : decode cX6_lay 53 = .ok (.aload 5, 2) := by decide +kernel
theorem dX6_lay_55 : decode cX6_lay 55 = .ok (.invokevirtual 84, 3) := by decide +kernel
theorem dX6_lay_58 : decode cX6_lay 58 = .ok (.ifCond .eq 51, 3) := by decide +kernel
theorem dX6_lay_61 : decode cX6_lay 61 = .ok (.aload 6, 2) := by decide +kernel
theorem dX6_lay_63 : decode cX6_lay 63 = .ok (.iload_n 2, 1) := by decide +kernel
theorem dX6_lay_64 : decode cX6_lay 64 = .ok (.invokevirtual 88, 3) := by decide +kernel
theorem dX6_lay_67 : decode cX6_lay 67 = .ok (.ifCond .ne 10, 3) := by decide +kernel
theorem dX6_lay_70 : decode cX6_lay 70 = .ok (.aload_n 0, 1) := by decide +kernel
theorem dX6_lay_71 : decode cX6_lay 71 = .ok (.bipush (-5), 2) := by decide +kernel
theorem dX6_lay_73 : decode cX6_lay 73 = .ok (.invokevirtual 50, 3) := by decide +kernel
theorem dX6_lay_76 : decode cX6_lay 76 = .ok (.ireturn, 1) := by decide +kernel
theorem dX6_lay_77 : decode cX6_lay 77 = .ok (.aload 6, 2) := by decide +kernel
theorem dX6_lay_79 : decode cX6_lay 79 = .ok (.aload 5, 2) := by decide +kernel
theorem dX6_lay_81 : decode cX6_lay 81 = .ok (.invokevirtual 91, 3) := by decide +kernel
theorem dX6_lay_84 : decode cX6_lay 84 = .ok (.ifCond .ne 10, 3) := by decide +kernel
theorem dX6_lay_87 : decode cX6_lay 87 = .ok (.aload_n 0, 1) := by decide +kernel
theorem dX6_lay_88 : decode cX6_lay 88 = .ok (.bipush (-6), 2) := by decide +kernel
theorem dX6_lay_90 : decode cX6_lay 90 = .ok (.invokevirtual 50, 3) := by decide +kernel
theorem dX6_lay_93 : decode cX6_lay 93 = .ok (.ireturn, 1) := by decide +kernel
theorem dX6_lay_94 : decode cX6_lay 94 = .ok (.aload 6, 2) := by decide +kernel
theorem dX6_lay_96 : decode cX6_lay 96 = .ok (.getfield 94, 3) := by decide +kernel
theorem dX6_lay_99 : decode cX6_lay 99 = .ok (.iload_n 2, 1) := by decide +kernel
theorem dX6_lay_100 : decode cX6_lay 100 = .ok (.aload 5, 2) := by decide +kernel
theorem dX6_lay_102 : decode cX6_lay 102 = .ok (.aastore, 1) := by decide +kernel
theorem dX6_lay_103 : decode cX6_lay 103 = .ok (.aload_n 0, 1) := by decide +kernel
theorem dX6_lay_104 : decode cX6_lay 104 = .ok (.iconst 1, 1) := by decide +kernel
theorem dX6_lay_105 : decode cX6_lay 105 = .ok (.invokevirtual 62, 3) := by decide +kernel
theorem dX6_lay_108 : decode cX6_lay 108 = .ok (.ireturn, 1) := by decide +kernel
theorem dX6_lay_109 : decode cX6_lay 109 = .ok (.aload_n 0, 1) := by decide +kernel
theorem dX6_lay_110 : decode cX6_lay 110 = .ok (.bipush (-4), 2) := by decide +kernel
theorem dX6_lay_112 : decode cX6_lay 112 = .ok (.invokevirtual 50, 3) := by decide +kernel
theorem dX6_lay_115 : decode cX6_lay 115 = .ok (.ireturn, 1) := by decide +kernel
theorem dX6_at_0 : decode cX6_at 0 = .ok (.aload_n 0, 1) := by decide +kernel
theorem dX6_at_1 : decode cX6_at 1 = .ok (.iload_n 1, 1) := by decide +kernel
theorem dX6_at_2 : decode cX6_at 2 = .ok (.invokevirtual 78, 3) := by decide +kernel
theorem dX6_at_5 : decode cX6_at 5 = .ok (.astore_n 3, 1) := by decide +kernel
theorem dX6_at_6 : decode cX6_at 6 = .ok (.aload_n 3, 1) := by decide +kernel
theorem dX6_at_7 : decode cX6_at 7 = .ok (.ifnonnull 10, 3) := by decide +kernel
theorem dX6_at_10 : decode cX6_at 10 = .ok (.aload_n 0, 1) := by decide +kernel
theorem dX6_at_11 : decode cX6_at 11 = .ok (.bipush (-2), 2) := by decide +kernel
theorem dX6_at_13 : decode cX6_at 13 = .ok (.invokevirtual 50, 3) := by decide +kernel
theorem dX6_at_16 : decode cX6_at 16 = .ok (.ireturn, 1) := by decide +kernel
theorem dX6_at_17 : decode cX6_at 17 = .ok (.aload_n 3, 1) := by decide +kernel
theorem dX6_at_18 : decode cX6_at 18 = .ok (.instanceof 82, 3) := by decide +kernel
theorem dX6_at_21 : decode cX6_at 21 = .ok (.ifCond .eq 42, 3) := by decide +kernel
theorem dX6_at_24 : decode cX6_at 24 = .ok (.aload_n 3, 1) := by decide +kernel
theorem dX6_at_25 : decode cX6_at 25 = .ok (.checkcast 82, 3) := by decide +kernel
theorem dX6_at_28 : decode cX6_at 28 = .ok (.astore 4, 2) := by decide +kernel
theorem dX6_at_30 : decode cX6_at 30 = .ok (.aload 4, 2) := by decide +kernel
theorem dX6_at_32 : decode cX6_at 32 = .ok (.iload_n 2, 1) := by decide +kernel
theorem dX6_at_33 : decode cX6_at 33 = .ok (.invokevirtual 88, 3) := by decide +kernel
theorem dX6_at_36 : decode cX6_at 36 = .ok (.ifCond .eq 20, 3) := by decide +kernel
theorem dX6_at_39 : decode cX6_at 39 = .ok (.aload_n 0, 1) := by decide +kernel
theorem dX6_at_40 : decode cX6_at 40 = .ok (.aload 4, 2) := by decide +kernel
theorem dX6_at_42 : decode cX6_at 42 = .ok (.getfield 94, 3) := by decide +kernel
theorem dX6_at_45 : decode cX6_at 45 = .ok (.iload_n 2, 1) := by decide +kernel
theorem dX6_at_46 : decode cX6_at 46 = .ok (.aaload, 1) := by decide +kernel
theorem dX6_at_47 : decode cX6_at 47 = .ok (.invokestatic 97, 3) := by decide +kernel
theorem dX6_at_50 : decode cX6_at 50 = .ok (.invokevirtual 62, 3) := by decide +kernel
theorem dX6_at_53 : decode cX6_at 53 = .ok (.goto 9, 3) := by decide +kernel
theorem dX6_at_56 : decode cX6_at 56 = .ok (.aload_n 0, 1) := by decide +kernel
theorem dX6_at_57 : decode cX6_at 57 = .ok (.bipush (-5), 2) := by decide +kernel
theorem dX6_at_59 : decode cX6_at 59 = .ok (.invokevirtual 50, 3) := by decide +kernel
theorem dX6_at_62 : decode cX6_at 62 = .ok (.ireturn, 1) := by decide +kernel
theorem dX6_at_63 : decode cX6_at 63 = .ok (.aload_n 0, 1) := by decide +kernel
theorem dX6_at_64 : decode cX6_at 64 = .ok (.bipush (-4), 2) := by decide +kernel
theorem dX6_at_66 : decode cX6_at 66 = .ok (.invokevirtual 50, 3) := by decide +kernel
theorem dX6_at_69 : decode cX6_at 69 = .ok (.ireturn, 1) := by decide +kernel
theorem dX6_is_0 : decode cX6_is 0 = .ok (.aload_n 0, 1) := by decide +kernel
theorem dX6_is_1 : decode cX6_is 1 = .ok (.iload_n 1, 1) := by decide +kernel
theorem dX6_is_2 : decode cX6_is 2 = .ok (.invokevirtual 78, 3) := by decide +kernel
theorem dX6_is_5 : decode cX6_is 5 = .ok (.astore_n 3, 1) := by decide +kernel
theorem dX6_is_6 : decode cX6_is 6 = .ok (.aload_n 3, 1) := by decide +kernel
theorem dX6_is_7 : decode cX6_is 7 = .ok (.ifnull 10, 3) := by decide +kernel
theorem dX6_is_10 : decode cX6_is 10 = .ok (.iload_n 2, 1) := by decide +kernel
theorem dX6_is_11 : decode cX6_is 11 = .ok (.invokestatic 101, 3) := by decide +kernel
theorem dX6_is_14 : decode cX6_is 14 = .ok (.ifCond .ne 10, 3) := by decide +kernel
theorem dX6_is_17 : decode cX6_is 17 = .ok (.aload_n 0, 1) := by decide +kernel
theorem dX6_is_18 : decode cX6_is 18 = .ok (.bipush (-2), 2) := by decide +kernel
theorem dX6_is_20 : decode cX6_is 20 = .ok (.invokevirtual 50, 3) := by decide +kernel
theorem dX6_is_23 : decode cX6_is 23 = .ok (.ireturn, 1) := by decide +kernel
theorem dX6_is_24 : decode cX6_is 24 = .ok (.aload_n 0, 1) := by decide +kernel
theorem dX6_is_25 : decode cX6_is 25 = .ok (.aload_n 3, 1) := by decide +kernel
theorem dX6_is_26 : decode cX6_is 26 = .ok (.iload_n 2, 1) := by decide +kernel
theorem dX6_is_27 : decode cX6_is 27 = .ok (.invokevirtual 104, 3) := by decide +kernel
theorem dX6_is_30 : decode cX6_is 30 = .ok (.ifCond .eq 7, 3) := by decide +kernel
theorem dX6_is_33 : decode cX6_is 33 = .ok (.iconst 1, 1) := by decide +kernel
theorem dX6_is_34 : decode cX6_is 34 = .ok (.goto 4, 3) := by decide +kernel
theorem dX6_is_37 : decode cX6_is 37 = .ok (.iconst 0, 1) := by decide +kernel
theorem dX6_is_38 : decode cX6_is 38 = .ok (.invokevirtual 62, 3) := by decide +kernel
theorem dX6_is_41 : decode cX6_is 41 = .ok (.ireturn, 1) := by decide +kernel
theorem dX6_stamps_0 : decode cX6_stamps 0 = .ok (.aload_n 0, 1) := by decide +kernel
theorem dX6_stamps_1 : decode cX6_stamps 1 = .ok (.iload_n 1, 1) := by decide +kernel
theorem dX6_stamps_2 : decode cX6_stamps 2 = .ok (.invokevirtual 78, 3) := by decide +kernel
theorem dX6_stamps_5 : decode cX6_stamps 5 = .ok (.astore_n 2, 1) := by decide +kernel
theorem dX6_stamps_6 : decode cX6_stamps 6 = .ok (.aload_n 2, 1) := by decide +kernel
theorem dX6_stamps_7 : decode cX6_stamps 7 = .ok (.instanceof 107, 3) := by decide +kernel
theorem dX6_stamps_10 : decode cX6_stamps 10 = .ok (.ifCond .eq 17, 3) := by decide +kernel
theorem dX6_stamps_13 : decode cX6_stamps 13 = .ok (.aload_n 2, 1) := by decide +kernel
theorem dX6_stamps_14 : decode cX6_stamps 14 = .ok (.checkcast 107, 3) := by decide +kernel
theorem dX6_stamps_17 : decode cX6_stamps 17 = .ok (.astore_n 3, 1) := by decide +kernel
theorem dX6_stamps_18 : decode cX6_stamps 18 = .ok (.aload_n 0, 1) := by decide +kernel
theorem dX6_stamps_19 : decode cX6_stamps 19 = .ok (.aload_n 3, 1) := by decide +kernel
theorem dX6_stamps_20 : decode cX6_stamps 20 = .ok (.getfield 109, 3) := by decide +kernel
theorem dX6_stamps_23 : decode cX6_stamps 23 = .ok (.invokevirtual 62, 3) := by decide +kernel
theorem dX6_stamps_26 : decode cX6_stamps 26 = .ok (.ireturn, 1) := by decide +kernel
theorem dX6_stamps_27 : decode cX6_stamps 27 = .ok (.aload_n 0, 1) := by decide +kernel
theorem dX6_stamps_28 : decode cX6_stamps 28 = .ok (.aload_n 2, 1) := by decide +kernel
theorem dX6_stamps_29 : decode cX6_stamps 29 = .ok (.ifnonnull 8, 3) := by decide +kernel
theorem dX6_stamps_32 : decode cX6_stamps 32 = .ok (.bipush (-2), 2) := by decide +kernel
theorem dX6_stamps_34 : decode cX6_stamps 34 = .ok (.goto 5, 3) := by decide +kernel
theorem dX6_stamps_37 : decode cX6_stamps 37 = .ok (.bipush (-4), 2) := by decide +kernel
theorem dX6_stamps_39 : decode cX6_stamps 39 = .ok (.invokevirtual 50, 3) := by decide +kernel
theorem dX6_stamps_42 : decode cX6_stamps 42 = .ok (.pop, 1) := by decide +kernel
theorem dX6_stamps_43 : decode cX6_stamps 43 = .ok (.iconst 0, 1) := by decide +kernel
theorem dX6_stamps_44 : decode cX6_stamps 44 = .ok (.ireturn, 1) := by decide +kernel
theorem dX6_desk_0 : decode cX6_desk 0 = .ok (.aload_n 0, 1) := by decide +kernel
theorem dX6_desk_1 : decode cX6_desk 1 = .ok (.iload_n 1, 1) := by decide +kernel
theorem dX6_desk_2 : decode cX6_desk 2 = .ok (.invokevirtual 112, 3) := by decide +kernel
theorem dX6_desk_5 : decode cX6_desk 5 = .ok (.astore 5, 2) := by decide +kernel
theorem dX6_desk_7 : decode cX6_desk 7 = .ok (.aload 5, 2) := by decide +kernel
theorem dX6_desk_9 : decode cX6_desk 9 = .ok (.ifnull 17, 3) := by decide +kernel
theorem dX6_desk_12 : decode cX6_desk 12 = .ok (.iload_n 2, 1) := by decide +kernel
theorem dX6_desk_13 : decode cX6_desk 13 = .ok (.invokestatic 101, 3) := by decide +kernel
theorem dX6_desk_16 : decode cX6_desk 16 = .ok (.ifCond .eq 10, 3) := by decide +kernel
theorem dX6_desk_19 : decode cX6_desk 19 = .ok (.iload_n 3, 1) := by decide +kernel
theorem dX6_desk_20 : decode cX6_desk 20 = .ok (.invokestatic 116, 3) := by decide +kernel
theorem dX6_desk_23 : decode cX6_desk 23 = .ok (.ifCond .ne 10, 3) := by decide +kernel
theorem dX6_desk_26 : decode cX6_desk 26 = .ok (.aload_n 0, 1) := by decide +kernel
theorem dX6_desk_27 : decode cX6_desk 27 = .ok (.bipush (-2), 2) := by decide +kernel
theorem dX6_desk_29 : decode cX6_desk 29 = .ok (.invokevirtual 50, 3) := by decide +kernel
theorem dX6_desk_32 : decode cX6_desk 32 = .ok (.ireturn, 1) := by decide +kernel
theorem dX6_desk_33 : decode cX6_desk 33 = .ok (.aload 5, 2) := by decide +kernel
theorem dX6_desk_35 : decode cX6_desk 35 = .ok (.getfield 119, 3) := by decide +kernel
theorem dX6_desk_38 : decode cX6_desk 38 = .ok (.iconst 4, 1) := by decide +kernel
theorem dX6_desk_39 : decode cX6_desk 39 = .ok (.if_icmp .lt 10, 3) := by decide +kernel
theorem dX6_desk_42 : decode cX6_desk 42 = .ok (.aload_n 0, 1) := by decide +kernel
theorem dX6_desk_43 : decode cX6_desk 43 = .ok (.bipush (-3), 2) := by decide +kernel
theorem dX6_desk_45 : decode cX6_desk 45 = .ok (.invokevirtual 50, 3) := by decide +kernel
theorem dX6_desk_48 : decode cX6_desk 48 = .ok (.ireturn, 1) := by decide +kernel
theorem dX6_desk_49 : decode cX6_desk 49 = .ok (.aload 5, 2) := by decide +kernel
theorem dX6_desk_51 : decode cX6_desk 51 = .ok (.getfield 119, 3) := by decide +kernel
theorem dX6_desk_54 : decode cX6_desk 54 = .ok (.istore 6, 2) := by decide +kernel
theorem dX6_desk_56 : decode cX6_desk 56 = .ok (.aload 5, 2) := by decide +kernel
theorem dX6_desk_58 : decode cX6_desk 58 = .ok (.getfield 122, 3) := by decide +kernel
theorem dX6_desk_61 : decode cX6_desk 61 = .ok (.iload 6, 2) := by decide +kernel
theorem dX6_desk_63 : decode cX6_desk 63 = .ok (.new 126, 3) := by decide +kernel
theorem dX6_desk_66 : decode cX6_desk 66 = .ok (.dup, 1) := by decide +kernel
theorem dX6_desk_67 : decode cX6_desk 67 = .ok (.iload_n 2, 1) := by decide +kernel
theorem dX6_desk_68 : decode cX6_desk 68 = .ok (.iload_n 3, 1) := by decide +kernel
theorem dX6_desk_69 : decode cX6_desk 69 = .ok (.iload 4, 2) := by decide +kernel
theorem dX6_desk_71 : decode cX6_desk 71 = .ok (.invokespecial 128, 3) := by decide +kernel
theorem dX6_desk_74 : decode cX6_desk 74 = .ok (.aastore, 1) := by decide +kernel
theorem dX6_desk_75 : decode cX6_desk 75 = .ok (.aload 5, 2) := by decide +kernel
theorem dX6_desk_77 : decode cX6_desk 77 = .ok (.dup, 1) := by decide +kernel
theorem dX6_desk_78 : decode cX6_desk 78 = .ok (.getfield 119, 3) := by decide +kernel
theorem dX6_desk_81 : decode cX6_desk 81 = .ok (.iconst 1, 1) := by decide +kernel
theorem dX6_desk_82 : decode cX6_desk 82 = .ok (.iadd, 1) := by decide +kernel
theorem dX6_desk_83 : decode cX6_desk 83 = .ok (.putfield 119, 3) := by decide +kernel
theorem dX6_desk_86 : decode cX6_desk 86 = .ok (.aload_n 0, 1) := by decide +kernel
theorem dX6_desk_87 : decode cX6_desk 87 = .ok (.iload 6, 2) := by decide +kernel
theorem dX6_desk_89 : decode cX6_desk 89 = .ok (.invokevirtual 62, 3) := by decide +kernel
theorem dX6_desk_92 : decode cX6_desk 92 = .ok (.ireturn, 1) := by decide +kernel
theorem dX6_change_0 : decode cX6_change 0 = .ok (.aload_n 0, 1) := by decide +kernel
theorem dX6_change_1 : decode cX6_change 1 = .ok (.iload_n 1, 1) := by decide +kernel
theorem dX6_change_2 : decode cX6_change 2 = .ok (.iload_n 2, 1) := by decide +kernel
theorem dX6_change_3 : decode cX6_change 3 = .ok (.invokevirtual 131, 3) := by decide +kernel
theorem dX6_change_6 : decode cX6_change 6 = .ok (.astore 6, 2) := by decide +kernel
theorem dX6_change_8 : decode cX6_change 8 = .ok (.aload 6, 2) := by decide +kernel
theorem dX6_change_10 : decode cX6_change 10 = .ok (.ifnull 18, 3) := by decide +kernel
theorem dX6_change_13 : decode cX6_change 13 = .ok (.iload_n 3, 1) := by decide +kernel
theorem dX6_change_14 : decode cX6_change 14 = .ok (.invokestatic 101, 3) := by decide +kernel
theorem dX6_change_17 : decode cX6_change 17 = .ok (.ifCond .eq 11, 3) := by decide +kernel
theorem dX6_change_20 : decode cX6_change 20 = .ok (.iload 4, 2) := by decide +kernel
theorem dX6_change_22 : decode cX6_change 22 = .ok (.invokestatic 116, 3) := by decide +kernel
theorem dX6_change_25 : decode cX6_change 25 = .ok (.ifCond .ne 10, 3) := by decide +kernel
theorem dX6_change_28 : decode cX6_change 28 = .ok (.aload_n 0, 1) := by decide +kernel
theorem dX6_change_29 : decode cX6_change 29 = .ok (.bipush (-2), 2) := by decide +kernel
theorem dX6_change_31 : decode cX6_change 31 = .ok (.invokevirtual 50, 3) := by decide +kernel
theorem dX6_change_34 : decode cX6_change 34 = .ok (.ireturn, 1) := by decide +kernel
theorem dX6_change_35 : decode cX6_change 35 = .ok (.aload 6, 2) := by decide +kernel
theorem dX6_change_37 : decode cX6_change 37 = .ok (.iload_n 3, 1) := by decide +kernel
theorem dX6_change_38 : decode cX6_change 38 = .ok (.putfield 135, 3) := by decide +kernel
theorem dX6_change_41 : decode cX6_change 41 = .ok (.aload 6, 2) := by decide +kernel
theorem dX6_change_43 : decode cX6_change 43 = .ok (.iload 4, 2) := by decide +kernel
theorem dX6_change_45 : decode cX6_change 45 = .ok (.putfield 138, 3) := by decide +kernel
theorem dX6_change_48 : decode cX6_change 48 = .ok (.aload 6, 2) := by decide +kernel
theorem dX6_change_50 : decode cX6_change 50 = .ok (.iload 5, 2) := by decide +kernel
theorem dX6_change_52 : decode cX6_change 52 = .ok (.putfield 141, 3) := by decide +kernel
theorem dX6_change_55 : decode cX6_change 55 = .ok (.aload_n 0, 1) := by decide +kernel
theorem dX6_change_56 : decode cX6_change 56 = .ok (.iconst 1, 1) := by decide +kernel
theorem dX6_change_57 : decode cX6_change 57 = .ok (.invokevirtual 62, 3) := by decide +kernel
theorem dX6_change_60 : decode cX6_change 60 = .ok (.ireturn, 1) := by decide +kernel
theorem dX6_hand_0 : decode cX6_hand 0 = .ok (.aload_n 0, 1) := by decide +kernel
theorem dX6_hand_1 : decode cX6_hand 1 = .ok (.iload_n 1, 1) := by decide +kernel
theorem dX6_hand_2 : decode cX6_hand 2 = .ok (.invokevirtual 78, 3) := by decide +kernel
theorem dX6_hand_5 : decode cX6_hand 5 = .ok (.astore_n 3, 1) := by decide +kernel
theorem dX6_hand_6 : decode cX6_hand 6 = .ok (.aload_n 3, 1) := by decide +kernel
theorem dX6_hand_7 : decode cX6_hand 7 = .ok (.ifnull 11, 3) := by decide +kernel
theorem dX6_hand_10 : decode cX6_hand 10 = .ok (.aload_n 0, 1) := by decide +kernel
